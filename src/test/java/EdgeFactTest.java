/** The edges that part IV of the terms and promises 34 to 43 name: facts, and what is known by them. */
public final class EdgeFactTest {
    public static void main(String[] args) {
        sight();
        customs();
        reading();
        annul();
        full();
        last();
        path();
        stopped();
        agrees();
        weighs();
        suspects();
        knownBy();
        kinds();
        thirtyBoxes();
        Edge.end();
    }

    static Edge.Deed facts(int n) {
        return Edge.boxes(2).then(Edge.times(n, x -> x.sight(0, x.count(7) % 6)));
    }

    static void sight() {
        Edge.sentence("34 sight: A SIGHT: its number.");
        Edge.answers("the first", facts(0), x -> x.sight(0, 0), 0);
        Edge.answers("behind others", Edge.BUSY, x -> x.sight(11, 5), 5);
        Edge.answers("the 60th", facts(59), x -> x.sight(1, 5), 59);
        Edge.sentence("34 sight: NONE, and nothing happens: 60 FACTS are there");
        Edge.refused("the 61st", facts(60), x -> x.sight(0, 0), -1);
        Edge.sentence("34 sight: NONE, and nothing happens: no such ones");
        Edge.refusedFor("no such box: sight(*, 0)", Edge.BUSY, (x, n) -> x.sight(n, 0), -1, -1, 12, 30, Edge.LEAST,
                Edge.GREATEST);
        Edge.refusedFor("no such holder: sight(0, *)", Edge.BUSY, (x, n) -> x.sight(0, n), -1, -1, 6, Edge.LEAST,
                Edge.GREATEST);
        Edge.answers("the last box, the last holder", Edge.BUSY.then(x -> x.sight(11, 5)), x -> x.last(11, 6), 5);
        Edge.answers("the first holder", Edge.BUSY.then(x -> x.sight(11, 0)), x -> x.last(11, 6), 0);
    }

    static void customs() {
        Edge.sentence("35 customs: A STOP (is) or a FREE: its number");
        Edge.answers("a stop", Edge.BUSY, x -> x.customs(11, true), 5);
        Edge.answers("a free", Edge.BUSY, x -> x.customs(0, false), 5);
        Edge.answers("the 60th", facts(59), x -> x.customs(1, true), 59);
        Edge.sentence("35 customs: NONE likewise: 60 FACTS are there");
        Edge.refused("the 61st", facts(60), x -> x.customs(0, true), -1);
        Edge.refused("the 61st", facts(60), x -> x.customs(0, false), -1);
        Edge.sentence("35 customs: NONE likewise: no such ones");
        Edge.refusedFor("customs(*, true)", Edge.BUSY, (x, n) -> x.customs(n, true), -1, -1, 12, 30, Edge.LEAST,
                Edge.GREATEST);
        Edge.refusedFor("customs(*, false)", Edge.BUSY, (x, n) -> x.customs(n, false), -1, -1, 12, 30, Edge.LEAST,
                Edge.GREATEST);
    }

    static void reading() {
        Edge.sentence("36 reading: A READING (-99999 .. 99999): its number");
        Edge.answers("-99999", Edge.BUSY, x -> x.reading(-99999), 5);
        Edge.answers("99999", Edge.BUSY, x -> x.reading(99999), 5);
        Edge.answers("0", Edge.NEW, x -> x.reading(0), 0);
        Edge.answers("the 60th", facts(59), x -> x.reading(0), 59);
        Edge.sentence("36 reading: NONE likewise");
        Edge.refusedFor("reading(*)", Edge.BUSY, (x, n) -> x.reading(n), -1, -100000, 100000, Edge.LEAST,
                Edge.GREATEST);
        Edge.refused("the 61st", facts(60), x -> x.reading(0), -1);
        Edge.sentence("IV: what stood aboard (and where) then is kept with it");
        Edge.Deed kept = Edge.boxes(2).then(Edge.load(0, 0, 0)).then(x -> x.reading(-30));
        Edge.answers("as it is", kept, x -> x.agrees(1), 1);
        Edge.answers("it is unloaded", kept.then(x -> x.unload(0, 0, -1)), x -> x.agrees(1), 1);
        Edge.answers("it stands elsewhere", kept.then(x -> x.unload(0, 0, -1)).then(Edge.load(0, 0, 3)),
                x -> x.agrees(1), 1);
        Edge.answers("another is loaded", kept.then(Edge.load(1, 0, 3)), x -> x.agrees(1), 1);
        for (int row = 0; row < 4; row++) {
            int list = 10 * (2 * row - 3);
            Edge.answers("row " + row, Edge.boxes(1).then(Edge.load(0, 1, row)).then(x -> x.reading(list)),
                    x -> x.agrees(1), 1);
            Edge.answers("row " + row + ", one off", Edge.boxes(1).then(Edge.load(0, 1, row))
                    .then(x -> x.reading(list + 1)), x -> x.agrees(1), 0);
        }
    }

    static void annul() {
        Edge.sentence("37 annul: A VOID: its number");
        Edge.answers("of the first", Edge.BUSY, x -> x.annul(0), 5);
        Edge.answers("of a stop", Edge.BUSY, x -> x.annul(2), 5);
        Edge.answers("of a reading", Edge.BUSY, x -> x.annul(3), 5);
        Edge.answers("of the last fact", facts(7), x -> x.annul(6), 7);
        Edge.answers("of one that is void already", Edge.BUSY, x -> x.annul(1), 5);
        Edge.answers("the 60th", facts(59), x -> x.annul(58), 59);
        Edge.sentence("37 annul: NONE, and nothing happens: 60 are there");
        Edge.refused("the 61st", facts(60), x -> x.annul(0), -1);
        Edge.sentence("37 annul: NONE, and nothing happens: no such FACT");
        Edge.refusedFor("annul(*)", Edge.BUSY, (x, n) -> x.annul(n), -1, -1, 5, 60, Edge.LEAST, Edge.GREATEST);
        Edge.refused("none is there", Edge.NEW, x -> x.annul(0), -1);
        Edge.sentence("37 annul: NONE, and nothing happens: a VOID");
        Edge.refused("a void", Edge.BUSY, x -> x.annul(4), -1);
        Edge.refused("a later void", Edge.BUSY.then(x -> x.annul(2)), x -> x.annul(5), -1);
    }

    static void full() {
        Edge.sentence("IV: FACTS, numbered from 0 on, 60 at most");
        Edge.answers("59", facts(59), x -> x.count(7), 59);
        Edge.answers("60", facts(60), x -> x.count(7), 60);
        Edge.answers("60 and one more", facts(61), x -> x.count(7), 60);
        Edge.answers("the last of 60 counts", facts(60), x -> x.last(0, 60), 5);
        Edge.Deed voids = facts(30).then(x -> {
            for (int i = 0; i < 30; i++) {
                x.annul(i);
            }
        });
        Edge.answers("thirty and their voids", voids, x -> x.last(0, 60), -2);
        Edge.answers("all but the last void", voids, x -> x.last(0, 59), 5);
        Edge.refused("void facts count too", voids, x -> x.sight(0, 0), -1);
    }

    static final Edge.Deed WAY = Edge.boxes(2).then(x -> {
        int[] holders = {3, 3, 0, 3, 5};
        for (int h : holders) {
            x.sight(0, h);
        }
        x.annul(4);
        x.annul(2);
    });

    static void last() {
        Edge.sentence("38 last: The holder of a BOX's last SIGHT, as KNOWN by n; -2: none");
        int[] due = {-2, 3, 3, 0, 3, 5, 3, 3};
        for (int n = 0; n < due.length; n++) {
            int by = n;
            Edge.refused("last(0, " + n + ")", WAY, x -> x.last(0, by), due[n]);
            Edge.refused("last(1, " + n + ")", WAY, x -> x.last(1, by), -2);
        }
        Edge.sentence("38 last: NONE: no such ones.");
        Edge.refusedFor("last(0, *)", WAY, (x, n) -> x.last(0, n), -1, -1, 8, 60, 61, Edge.LEAST, Edge.GREATEST);
        Edge.refusedFor("last(*, 1)", WAY, (x, n) -> x.last(n, 1), -1, -1, 2, 30, Edge.LEAST, Edge.GREATEST);
        Edge.refusedFor("last(0, *) of sixty", facts(60), (x, n) -> x.last(0, n), -1, -1, 61);
    }

    static void path() {
        Edge.sentence("39 path: The i-th holder on its way (SIGHTS in a row by one and the same are one)");
        int[][] due = {{}, {3}, {3}, {3, 0}, {3, 0, 3}, {3, 0, 3, 5}, {3, 0, 3}, {3}};
        for (int n = 0; n < due.length; n++) {
            int by = n;
            for (int i = 0; i < due[n].length; i++) {
                int at = i;
                Edge.refused("path(0, " + n + ", " + i + ")", WAY, x -> x.path(0, by, at), due[n][i]);
            }
            Edge.sentence("39 path: NONE: not so many");
            Edge.refusedFor("path(0, " + n + ", *)", WAY, (x, i) -> x.path(0, by, i), -1, -1, due[n].length,
                    Edge.LEAST, Edge.GREATEST);
        }
        Edge.refused("a box without sights", WAY, x -> x.path(1, 7, 0), -1);
        Edge.answers("sights of another box between", Edge.boxes(2).then(x -> x.sight(0, 1)).then(x -> x.sight(1, 2))
                .then(x -> x.sight(0, 1)), x -> x.path(0, 3, 1), -1);
        Edge.answers("the 60th of sixty", facts(60), x -> x.path(0, 60, 59), 5);
        Edge.refused("the 61st of sixty", facts(60), x -> x.path(0, 60, 60), -1);
        Edge.sentence("39 path: NONE: .. no such ones.");
        Edge.refusedFor("path(0, *, 0)", WAY, (x, n) -> x.path(0, n, 0), -1, -1, 8, 61, Edge.LEAST, Edge.GREATEST);
        Edge.refusedFor("path(*, 1, 0)", WAY, (x, n) -> x.path(n, 1, 0), -1, -1, 2, 30, Edge.LEAST, Edge.GREATEST);
    }

    static void stopped() {
        Edge.Deed told = Edge.boxes(2).then(x -> x.customs(0, true)).then(x -> x.customs(0, false))
                .then(x -> x.customs(1, true)).then(x -> x.customs(0, true)).then(x -> x.annul(3))
                .then(x -> x.annul(1));
        Edge.sentence("40 stopped: 1 if a BOX is STOPPED as KNOWN by n (its last of these is a STOP), else 0");
        int[] first = {0, 1, 0, 0, 1, 0, 1};
        int[] second = {0, 0, 0, 1, 1, 1, 1};
        for (int n = 0; n < first.length; n++) {
            int by = n;
            Edge.refused("stopped(0, " + n + ")", told, x -> x.stopped(0, by), first[n]);
            Edge.refused("stopped(1, " + n + ")", told, x -> x.stopped(1, by), second[n]);
        }
        Edge.answers("a free alone", Edge.boxes(1).then(x -> x.customs(0, false)), x -> x.stopped(0, 1), 0);
        Edge.sentence("40 stopped: NONE: no such ones.");
        Edge.refusedFor("stopped(0, *)", told, (x, n) -> x.stopped(0, n), -1, -1, 7, 61, Edge.LEAST, Edge.GREATEST);
        Edge.refusedFor("stopped(*, 1)", told, (x, n) -> x.stopped(n, 1), -1, -1, 2, 30, Edge.LEAST, Edge.GREATEST);
    }

    /** 10 in row 0, 20 in row 3: LIST 30. Readings of 30, 31, then the second void, then one of 29. */
    static final Edge.Deed READ = Edge.box(10, 0, 0).then(Edge.box(20, 0, 0)).then(Edge.box(40, 0, 0))
            .then(Edge.load(0, 0, 0)).then(Edge.load(1, 0, 3)).then(x -> x.reading(30)).then(x -> x.reading(31))
            .then(x -> x.annul(1)).then(x -> x.reading(29));

    static void agrees() {
        Edge.sentence("41 agrees: 1 if all READINGS are so as told, as KNOWN by n, else 0");
        int[] due = {1, 1, 0, 1, 0};
        for (int n = 0; n < due.length; n++) {
            int by = n;
            Edge.refused("agrees(" + n + ")", READ, x -> x.agrees(by), due[n]);
        }
        Edge.answers("without readings", facts(3), x -> x.agrees(3), 1);
        Edge.sentence("41 agrees: NONE: no such n.");
        Edge.refusedFor("agrees(*)", READ, (x, n) -> x.agrees(n), -1, -1, 5, 60, Edge.LEAST, Edge.GREATEST);
        Edge.refused("agrees(1) of none", Edge.NEW, x -> x.agrees(1), -1);
        Edge.refused("agrees(0) of none", Edge.NEW, x -> x.agrees(0), 1);
    }

    /** 10 in row 0, 20 in row 3 and one reading of this list. */
    static Edge.Deed seen(int list) {
        return Edge.box(10, 0, 0).then(Edge.box(20, 0, 0)).then(Edge.box(40, 0, 0)).then(Edge.load(0, 0, 0))
                .then(Edge.load(1, 0, 3)).then(x -> x.reading(list));
    }

    static void weighs() {
        Edge.sentence("42 weighs: WEIGHT of a BOX with which all READINGS are so: as it is told, if that does");
        Edge.refused("as told", seen(30), x -> x.weighs(0, 1), 10);
        Edge.refused("as told, one ashore", seen(30), x -> x.weighs(2, 1), 40);
        Edge.refused("no readings", seen(0), x -> x.weighs(0, 0), 10);
        Edge.sentence("42 weighs: .. else the least (1 .. 60)");
        // Row 0 counts -3 a weight, row 3 +3: box 0 of 1 makes 57, of 60 makes -120; box 1 of 1 -27, of 60 150.
        Edge.refused("box 0 of 1", seen(57), x -> x.weighs(0, 1), 1);
        Edge.refused("box 0 of 0", seen(60), x -> x.weighs(0, 1), -2);
        Edge.refused("box 0 of 60", seen(-120), x -> x.weighs(0, 1), 60);
        Edge.refused("box 0 of 61", seen(-123), x -> x.weighs(0, 1), -2);
        Edge.refused("box 1 of 1", seen(-27), x -> x.weighs(1, 1), 1);
        Edge.refused("box 1 of 0", seen(-30), x -> x.weighs(1, 1), -2);
        Edge.refused("box 1 of 60", seen(150), x -> x.weighs(1, 1), 60);
        Edge.refused("box 1 of 61", seen(153), x -> x.weighs(1, 1), -2);
        Edge.refused("the heaviest told", seen(90), x -> x.weighs(1, 1), 40);
        Edge.sentence("42 weighs: -2: none");
        Edge.refused("no third of it", seen(31), x -> x.weighs(0, 1), -2);
        Edge.refused("one ashore", seen(33), x -> x.weighs(2, 1), -2);
        Edge.refused("one reading so, one not", seen(27).then(x -> x.reading(30)), x -> x.weighs(0, 2), -2);
        Edge.refused("both so", seen(27).then(x -> x.reading(27)), x -> x.weighs(0, 2), 11);
        Edge.refused("the greatest reading", seen(99999), x -> x.weighs(0, 1), -2);
        Edge.sentence("42 weighs: NONE: no such ones.");
        Edge.refusedFor("weighs(0, *)", READ, (x, n) -> x.weighs(0, n), -1, -1, 5, 61, Edge.LEAST, Edge.GREATEST);
        Edge.refusedFor("weighs(*, 1)", READ, (x, n) -> x.weighs(n, 1), -1, -1, 3, 30, Edge.LEAST, Edge.GREATEST);
    }

    static void suspects() {
        Edge.sentence("43 suspects: SUSPECTS, as KNOWN by n (bits)");
        Edge.refused("no readings: any", seen(30), x -> x.suspects(0), 7);
        Edge.refused("so as told: those not in it", seen(30), x -> x.suspects(1), 4);
        Edge.refused("box 0 heavier, box 1 lighter", seen(27), x -> x.suspects(1), 3);
        Edge.refused("none", seen(31), x -> x.suspects(1), 0);
        Edge.refused("no box", Edge.NEW, x -> x.suspects(0), 0);
        Edge.refused("thirty boxes", Edge.boxes(30), x -> x.suspects(0), 0x3fffffff);
        Edge.sentence("IV: SUSPECTS: BOXES with another WEIGHT (1 .. 60) than told");
        Edge.refused("box 0 of 1", seen(57), x -> x.suspects(1), 3);
        Edge.refused("box 0 of 0", seen(60), x -> x.suspects(1), 2);
        Edge.refused("box 0 of 60", seen(-120), x -> x.suspects(1), 1);
        Edge.refused("box 0 of 61", seen(-123), x -> x.suspects(1), 0);
        Edge.refused("box 1 of 1, box 0 of 29", seen(-27), x -> x.suspects(1), 3);
        Edge.refused("box 1 of 0", seen(-30), x -> x.suspects(1), 1);
        Edge.refused("box 1 of 60", seen(150), x -> x.suspects(1), 2);
        Edge.refused("box 1 of 61", seen(153), x -> x.suspects(1), 0);
        Edge.sentence("43 suspects: NONE: no such n.");
        Edge.refusedFor("suspects(*)", READ, (x, n) -> x.suspects(n), -1, -1, 5, 60, Edge.LEAST, Edge.GREATEST);
        Edge.refused("suspects(1) of none", Edge.NEW, x -> x.suspects(1), -1);
    }

    /** Each kind of fact counts for its own questions alone. */
    static void kinds() {
        Edge.sentence("IV: A SIGHT .. A STOP, a FREE .. A READING .. A VOID: each its own");
        Edge.Deed one = Edge.boxes(2).then(Edge.load(0, 0, 0)).then(Edge.store(1, 0));
        Edge.Deed[] facts = {x -> x.sight(1, 0), x -> x.sight(1, 1), x -> x.customs(1, true), x -> x.customs(1, false),
            x -> x.reading(-30), x -> x.reading(-33)};
        int[] last = {0, 1, -2, -2, -2, -2};
        int[] stopped = {0, 0, 1, 0, 0, 0};
        int[] agrees = {1, 1, 1, 1, 1, 0};
        int[] suspects = {3, 3, 3, 3, 2, 1};
        for (int i = 0; i < facts.length; i++) {
            Edge.Deed told = one.then(facts[i]);
            Edge.answers("last, fact " + i, told, x -> x.last(1, 1), last[i]);
            Edge.answers("last of the other, fact " + i, told, x -> x.last(0, 1), -2);
            Edge.answers("path, fact " + i, told, x -> x.path(1, 1, 0), last[i] == -2 ? -1 : last[i]);
            Edge.answers("stopped, fact " + i, told, x -> x.stopped(1, 1), stopped[i]);
            Edge.answers("stopped of the other, fact " + i, told, x -> x.stopped(0, 1), 0);
            Edge.answers("agrees, fact " + i, told, x -> x.agrees(1), agrees[i]);
            Edge.answers("suspects, fact " + i, told, x -> x.suspects(1), suspects[i]);
            Edge.answers("fetch, fact " + i, told, x -> x.fetch(0), stopped[i] == 1 ? -2 : 1);
            Edge.alike("its void, for the yard and the ship", one.then(x -> x.reading(-30)).then(x -> x.annul(0))
                    .then(Edge.load(1, 1, 1)).then(x -> x.unload(1, 1, -1)), one.then(x -> x.reading(-30))
                    .then(x -> x.annul(0)).then(x -> x.fetch(0)));
            Edge.answers("void, last", told.then(x -> x.annul(0)), x -> x.last(1, 2), -2);
            Edge.answers("void, stopped", told.then(x -> x.annul(0)), x -> x.stopped(1, 2), 0);
            Edge.answers("void, agrees", told.then(x -> x.annul(0)), x -> x.agrees(2), 1);
            Edge.answers("void, suspects", told.then(x -> x.annul(0)), x -> x.suspects(2), 3);
        }
        Edge.answers("a reading while none is aboard", Edge.boxes(2).then(x -> x.reading(0)), x -> x.agrees(1), 1);
        Edge.answers("those ashore are not in it", Edge.boxes(2).then(x -> x.reading(3)), x -> x.suspects(1), 0);
    }

    static void thirtyBoxes() {
        Edge.sentence("II, IV: BOXES, 30 at most: the 30th is known as the others");
        Edge.Deed all = Edge.boxes(30).then(Edge.load(29, 0, 3)).then(x -> x.reading(33)).then(x -> x.sight(29, 4))
                .then(x -> x.customs(29, true));
        Edge.answers("agrees", all, x -> x.agrees(1), 0);
        Edge.answers("weighs", all, x -> x.weighs(29, 1), 11);
        Edge.answers("weighs another", all, x -> x.weighs(28, 1), -2);
        Edge.answers("suspects", all, x -> x.suspects(1), 1 << 29);
        Edge.answers("last", all, x -> x.last(29, 3), 4);
        Edge.answers("stopped", all, x -> x.stopped(29, 3), 1);
        Edge.answers("stopped, another", all, x -> x.stopped(28, 3), 0);
        Edge.answers("as told, all are there", Edge.boxes(30).then(x -> x.reading(0)), x -> x.agrees(1), 1);
    }

    static void knownBy() {
        Edge.sentence("IV: as KNOWN by n: the first n of them, without those that a VOID among them names");
        Edge.Deed one = Edge.boxes(1).then(x -> x.sight(0, 4)).then(x -> x.sight(0, 2)).then(x -> x.annul(1))
                .then(x -> x.sight(0, 1));
        int[] due = {-2, 4, 2, 4, 1};
        for (int n = 0; n < due.length; n++) {
            int by = n;
            Edge.answers("last(0, " + n + ")", one, x -> x.last(0, by), due[n]);
        }
        // The bit of the 32nd fact and of those beyond it, and that of the 60th.
        for (int fact : new int[] {0, 30, 31, 32, 33, 58}) {
            Edge.Deed gone = facts(59).then(x -> x.annul(fact));
            Edge.answers("the last one's neighbour stays, void " + fact, gone, x -> x.last(0, 60), fact == 58 ? 3 : 4);
            Edge.answers("by " + (fact + 1) + " it is known", gone, x -> x.last(0, fact + 1), fact % 6);
            Edge.answers("by all it is out of the way", gone, x -> x.path(0, 60, fact),
                    fact == 58 ? -1 : (fact + 1) % 6);
        }
    }
}
