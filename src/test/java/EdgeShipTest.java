/** The edges that part II of the terms and promises 6 to 16 name: boxes, covers, stacks, loading, unloading, balance. */
public final class EdgeShipTest {
    public static void main(String[] args) {
        box();
        stuck();
        cover();
        store();
        fetch();
        tiers();
        coversAtFirst();
        whatCanBeWorked();
        load();
        loadLift();
        loadBorne();
        noGreaterThanAhead();
        unload();
        unloadStuck();
        unloadRoom();
        unloadLift();
        unloadBorne();
        of();
        at();
        ship();
        borne();
        would();
        Edge.end();
    }

    // ---- promises 6 to 10

    static void box() {
        Edge.sentence("6 box: A BOX, AWAY: its number.");
        Edge.answers("the first", Edge.NEW, x -> x.box(1, 0, 0), 0);
        Edge.answers("the 30th", Edge.boxes(29), x -> x.box(1, 0, 0), 29);
        Edge.answers("it is away", Edge.boxes(1), x -> x.of(0, 4), 0);
        Edge.answers("its lock is not stuck", Edge.boxes(1), x -> x.of(0, 3), 0);
        Edge.sentence("6 box: NONE, and nothing happens: 30 are there");
        Edge.refused("the 31st", Edge.boxes(30), x -> x.box(1, 0, 0), -1);
        Edge.refused("the 31st, though all are aboard or in the yard", Edge.boxes(30).then(x -> {
            for (int i = 0; i < 16; i++) {
                x.store(i, i / 4);
            }
            for (int i = 16; i < 30; i++) {
                x.load(i, i % 3, i % 4);
            }
        }), x -> x.box(1, 0, 0), -1);
        Edge.sentence("6 box: NONE, and nothing happens: no such WEIGHT (1 .. 40)");
        Edge.answers("1", Edge.BUSY, x -> x.box(1, 0, 0), 12);
        Edge.answers("40", Edge.BUSY, x -> x.box(40, 0, 0), 12);
        Edge.answers("a box of 40", Edge.box(40, 0, 0), x -> x.of(0, 0), 40);
        Edge.refusedFor("box(*, 0, 0)", Edge.BUSY, (x, n) -> x.box(n, 0, 0), -1, 0, -1, 41, Edge.LEAST, Edge.GREATEST);
        Edge.sentence("6 box: NONE, and nothing happens: no such PORT (0 .. 4)");
        Edge.answers("4", Edge.BUSY, x -> x.box(1, 4, 0), 12);
        Edge.answers("a box for port 4", Edge.box(1, 4, 0), x -> x.of(0, 1), 4);
        Edge.refusedFor("box(1, *, 0)", Edge.BUSY, (x, n) -> x.box(1, n, 0), -1, -1, 5, Edge.LEAST, Edge.GREATEST);
        Edge.sentence("6 box: NONE, and nothing happens: no such SORT (0 .. 5)");
        Edge.answers("5", Edge.BUSY, x -> x.box(1, 0, 5), 12);
        Edge.answers("a box of sort 5", Edge.box(1, 0, 5), x -> x.of(0, 2), 5);
        Edge.refusedFor("box(1, 0, *)", Edge.BUSY, (x, n) -> x.box(1, 0, n), -1, -1, 6, Edge.LEAST, Edge.GREATEST);
    }

    static void stuck() {
        Edge.sentence("7 stuck: A BOX's lock is STUCK, or not: true");
        Edge.is("the first", Edge.BUSY, x -> x.stuck(0, true), true);
        Edge.is("the last", Edge.BUSY, x -> x.stuck(11, true), true);
        Edge.is("as it is already", Edge.BUSY, x -> x.stuck(1, true), true);
        Edge.is("not stuck, as it is already", Edge.BUSY, x -> x.stuck(0, false), true);
        Edge.answers("it is stuck", Edge.BUSY.then(x -> x.stuck(11, true)), x -> x.of(11, 3), 1);
        Edge.answers("it is not", Edge.BUSY.then(x -> x.stuck(1, false)), x -> x.of(1, 3), 0);
        Edge.sentence("7 stuck: false: no such one.");
        for (int n : new int[] {-1, 12, 29, 30, Edge.LEAST, Edge.GREATEST}) {
            Edge.isRefused("stuck(" + n + ", true)", Edge.BUSY, x -> x.stuck(n, true));
            Edge.isRefused("stuck(" + n + ", false)", Edge.BUSY, x -> x.stuck(n, false));
        }
        Edge.isRefused("none is there", Edge.NEW, x -> x.stuck(0, true));
    }

    static void cover() {
        Edge.sentence("8 cover: The COVER of a BAY is laid (on) or taken: true");
        Edge.is("taken", Edge.NEW, x -> x.cover(0, false), true);
        Edge.is("the last bay's", Edge.NEW, x -> x.cover(2, false), true);
        Edge.is("laid", Edge.uncover(0), x -> x.cover(0, true), true);
        Edge.answers("bits", Edge.uncover(0).then(Edge.uncover(2)), x -> x.count(9), 26);
        Edge.answers("bits", Edge.uncover(0).then(Edge.uncover(2)).then(Edge.recover(0)), x -> x.count(9), 27);
        Edge.sentence("8 cover: false, and nothing happens: no such BAY");
        for (int n : new int[] {-1, 3, 4, 5, 31, 32, Edge.LEAST, Edge.GREATEST}) {
            Edge.isRefused("cover(" + n + ", false)", Edge.boxes(1), x -> x.cover(n, false));
            Edge.isRefused("cover(" + n + ", true)", Edge.boxes(1), x -> x.cover(n, true));
        }
        Edge.isRefused("cover(2, false) of two bays", Edge.text("bays 2;"), x -> x.cover(2, false));
        Edge.is("cover(1, false) of two bays", Edge.text("bays 2;"), x -> x.cover(1, false), true);
        Edge.is("cover(4, false) of five bays", Edge.text("bays 5;"), x -> x.cover(4, false), true);
        Edge.isRefused("cover(5, false) of five bays", Edge.text("bays 5;"), x -> x.cover(5, false));
        Edge.sentence("8 cover: false, and nothing happens: it is so already");
        Edge.isRefused("it lies", Edge.BUSY, x -> x.cover(0, true));
        Edge.isRefused("it is taken", Edge.BUSY, x -> x.cover(2, false));
        Edge.sentence("8 cover: false, and nothing happens: it can't be taken (while a BOX stands on a DECK of that BAY)");
        for (int row = 0; row < 4; row++) {
            Edge.Deed deck = Edge.boxes(1).then(Edge.load(0, 1, row));
            Edge.isRefused("a box on the deck of row " + row, deck, x -> x.cover(1, false));
            Edge.is("not of that bay", deck, x -> x.cover(0, false), true);
            Edge.is("not of that bay", deck, x -> x.cover(2, false), true);
            int r = row;
            Edge.is("it is gone", deck.then(x -> x.unload(1, r, 0)), x -> x.cover(1, false), true);
            Edge.is("one in the hold", Edge.boxes(1).then(Edge.uncover(1)).then(Edge.load(0, 1, row))
                    .then(Edge.recover(1)), x -> x.cover(1, false), true);
        }
        Edge.is("laid over a full hold", Edge.boxes(2).then(Edge.uncover(1)).then(Edge.load(0, 1, 0))
                .then(Edge.load(1, 1, 0)), x -> x.cover(1, true), true);
    }

    static void store() {
        Edge.sentence("9 store: A BOX that is AWAY comes to a STACK: its place there (0 .. 3).");
        for (int stack = 0; stack < 4; stack++) {
            for (int high = 0; high < 4; high++) {
                int s = stack;
                int h = high;
                Edge.Deed some = Edge.boxes(5).then(Edge.times(high, x -> x.store(x.count(5), s)));
                Edge.answers("on " + h + " of stack " + s, some, x -> x.store(h, s), h);
            }
            int s = stack;
            Edge.sentence("9 store: NONE, and nothing happens: no room (four BOXES each at most)");
            Edge.refused("a fifth of stack " + s, Edge.boxes(5).then(Edge.times(4, x -> x.store(x.count(5), s))),
                    x -> x.store(4, s), -1);
        }
        Edge.sentence("9 store: NONE, and nothing happens: no such ones");
        Edge.refusedFor("no such box: store(*, 2)", Edge.BUSY, (x, n) -> x.store(n, 2), -1, -1, 12, 30, Edge.LEAST,
                Edge.GREATEST);
        Edge.refusedFor("no such stack: store(11, *)", Edge.BUSY, (x, n) -> x.store(11, n), -1, -1, 4, Edge.LEAST,
                Edge.GREATEST);
        Edge.answers("the last box", Edge.BUSY, x -> x.store(11, 3), 0);
        Edge.sentence("9 store: NONE, and nothing happens: it is not AWAY");
        Edge.refused("aboard", Edge.BUSY, x -> x.store(0, 2), -1);
        Edge.refused("in the yard", Edge.BUSY, x -> x.store(8, 2), -1);
        Edge.refused("in that very stack", Edge.BUSY, x -> x.store(8, 1), -1);
    }

    static void fetch() {
        Edge.Deed yard = Edge.boxes(5).then(Edge.store(2, 0)).then(Edge.store(3, 0)).then(Edge.store(4, 3));
        Edge.sentence("10 fetch: The highest BOX of a STACK goes AWAY: its number.");
        Edge.answers("the highest", yard, x -> x.fetch(0), 3);
        Edge.answers("the only one", yard, x -> x.fetch(3), 4);
        Edge.answers("it is away", yard.then(x -> x.fetch(0)), x -> x.of(3, 4), 0);
        Edge.answers("the next one then", yard.then(x -> x.fetch(0)), x -> x.fetch(0), 2);
        Edge.sentence("10 fetch: NONE, and nothing happens: no such STACK");
        Edge.refusedFor("fetch(*)", yard, (x, n) -> x.fetch(n), -1, -1, 4, Edge.LEAST, Edge.GREATEST);
        Edge.sentence("10 fetch: NONE, and nothing happens: it is empty");
        Edge.refusedFor("fetch(*)", yard, (x, n) -> x.fetch(n), -1, 1, 2);
        Edge.refused("emptied", yard.then(x -> x.fetch(3)), x -> x.fetch(3), -1);
        Edge.sentence("10 fetch: -2: it is STOPPED (as all FACTS tell)");
        Edge.Deed stop = yard.then(x -> x.customs(3, true));
        Edge.refused("stopped", stop, x -> x.fetch(0), -2);
        Edge.answers("another stack", stop, x -> x.fetch(3), 4);
        Edge.refused("freed and stopped again", stop.then(x -> x.customs(3, false)).then(x -> x.customs(3, true)),
                x -> x.fetch(0), -2);
        Edge.answers("freed", stop.then(x -> x.customs(3, false)), x -> x.fetch(0), 3);
        Edge.answers("the stop is void", stop.then(x -> x.annul(0)), x -> x.fetch(0), 3);
        Edge.refused("the free is void", stop.then(x -> x.customs(3, false)).then(x -> x.annul(1)), x -> x.fetch(0),
                -2);
        Edge.answers("one below is stopped", yard.then(x -> x.customs(2, true)), x -> x.fetch(0), 3);
        Edge.answers("a stop keeps it from no ship", stop, x -> x.load(3, 0, 0), 2);
    }

    // ---- the ship's places

    static void tiers() {
        Edge.sentence("II: a HOLD (TIERS 0, 1) and above it a DECK (TIERS 2, 3), .. from its lowest TIER on");
        for (int bay = 0; bay < 3; bay++) {
            for (int row = 0; row < 4; row++) {
                int b = bay;
                int r = row;
                Edge.Deed deck = Edge.boxes(5);
                Edge.Deed hold = Edge.boxes(5).then(Edge.uncover(b));
                Edge.answers("deck", deck, x -> x.load(0, b, r), 2);
                Edge.answers("deck", deck.then(Edge.load(0, b, r)), x -> x.load(1, b, r), 3);
                Edge.refused("deck is full", deck.then(Edge.load(0, b, r)).then(Edge.load(1, b, r)),
                        x -> x.load(2, b, r), -1);
                Edge.answers("hold", hold, x -> x.load(0, b, r), 0);
                Edge.answers("hold", hold.then(Edge.load(0, b, r)), x -> x.load(1, b, r), 1);
                Edge.Deed full = hold.then(Edge.load(0, b, r)).then(Edge.load(1, b, r));
                Edge.refused("hold is full", full, x -> x.load(2, b, r), -1);
                Edge.answers("deck above a full hold", full.then(Edge.recover(b)), x -> x.load(2, b, r), 2);
            }
        }
    }

    static void coversAtFirst() {
        Edge.sentence("II: (at first it lies there, over each of five BAYS, be they there or not)");
        Edge.answers("of three bays", Edge.NEW, x -> x.count(9), 31);
        Edge.answers("of two bays", Edge.text("bays 2;"), x -> x.count(9), 31);
        Edge.answers("the fifth bay", Edge.text("bays 5;").then(Edge.boxes(1)), x -> x.load(0, 4, 3), 2);
        Edge.answers("taken, and the bay gone", Edge.text("bays 5;").then(Edge.uncover(4)).then(Edge.text("bays 2;")),
                x -> x.count(9), 15);
    }

    static void whatCanBeWorked() {
        Edge.sentence("II: with it only the DECKS can be worked, without it only the HOLDS");
        Edge.Deed hold = Edge.boxes(2).then(Edge.uncover(0)).then(Edge.load(0, 0, 0));
        Edge.answers("unload from the open hold", hold, x -> x.unload(0, 0, -1), 1);
        Edge.refused("unload from the covered hold", hold.then(Edge.recover(0)), x -> x.unload(0, 0, -1), -1);
        Edge.answers("load above the covered hold", hold.then(Edge.recover(0)), x -> x.load(1, 0, 0), 2);
        Edge.answers("load into the open hold", hold, x -> x.load(1, 0, 0), 1);
        Edge.answers("unload from the deck", hold.then(Edge.recover(0)).then(Edge.load(1, 0, 0)),
                x -> x.unload(0, 0, -1), 1);
    }

    // ---- promise 11

    static void load() {
        Edge.sentence("11 load: NONE, and nothing happens: no such ones");
        Edge.refusedFor("no such box: load(*, 3, 0)", Edge.BUSY, (x, n) -> x.load(n, 3, 0), -1, -1, 12, 30, Edge.LEAST,
                Edge.GREATEST);
        Edge.refusedFor("no such bay: load(11, *, 2)", Edge.BUSY, (x, n) -> x.load(11, n, 2), -1, -1, 4, 5, Edge.LEAST,
                Edge.GREATEST);
        Edge.refusedFor("no such row: load(11, 3, *)", Edge.BUSY, (x, n) -> x.load(11, 3, n), -1, -1, 4, Edge.LEAST,
                Edge.GREATEST);
        Edge.answers("the last box, bay and row", Edge.BUSY, x -> x.load(11, 3, 3), 3);
        Edge.answers("the first bay, the last row", Edge.BUSY, x -> x.load(11, 0, 3), 2);
        Edge.sentence("11 load: NONE, and nothing happens: it can't be had");
        Edge.refused("aboard", Edge.BUSY, x -> x.load(0, 3, 2), -1);
        Edge.refused("aboard at that very place", Edge.BUSY, x -> x.load(5, 3, 3), -1);
        Edge.refused("not the highest of its stack", Edge.BUSY, x -> x.load(6, 3, 2), -1);
        Edge.answers("the highest of its stack", Edge.BUSY, x -> x.load(7, 3, 2), 2);
        Edge.answers("the highest when the other is gone", Edge.BUSY.then(Edge.load(7, 3, 2)), x -> x.load(6, 3, 2),
                3);
        Edge.answers("away", Edge.BUSY, x -> x.load(11, 3, 2), 2);
        Edge.answers("it leaves the yard", Edge.BUSY.then(Edge.load(7, 3, 2)), x -> x.count(5), 2);
        Edge.sentence("11 load: NONE, and nothing happens: no room");
        Edge.refused("a full deck", Edge.BUSY, x -> x.load(11, 0, 0), -1);
        Edge.refused("a full deck, for one of the yard", Edge.BUSY, x -> x.load(7, 0, 0), -1);
        Edge.answers("one place left", Edge.BUSY.then(x -> x.stuck(1, false)).then(x -> x.unload(0, 0, 3)),
                x -> x.load(11, 0, 0), 3);
    }

    static void loadLift() {
        Edge.sentence("11 load: -2: LIFT (the WEIGHT lifted is not beyond LIFT)");
        Edge.Deed one = Edge.box(10, 0, 0);
        Edge.answers("as great as LIFT", Edge.text("lift 10;").then(one), x -> x.load(0, 0, 0), 2);
        Edge.refused("one beyond LIFT", Edge.text("lift 9;").then(one), x -> x.load(0, 0, 0), -2);
        Edge.refused("one beyond LIFT, from the yard", Edge.text("lift 9;").then(one).then(Edge.store(0, 2)),
                x -> x.load(0, 0, 0), -2);
        Edge.answers("the lightest", Edge.text("lift 1;").then(Edge.box(1, 0, 0)), x -> x.load(0, 0, 0), 2);
        Edge.answers("the heaviest", Edge.text("lift 40;").then(Edge.box(40, 0, 0)), x -> x.load(0, 0, 0), 2);
        Edge.refused("the heaviest", Edge.text("lift 39;").then(Edge.box(40, 0, 0)), x -> x.load(0, 0, 0), -2);
        Edge.sentence("11 load: NONE comes ahead of -2, -2 ahead of -3");
        Edge.refused("too heavy, and no room", Edge.boxes(3).then(Edge.load(0, 0, 0)).then(Edge.load(1, 0, 0))
                .then(Edge.text("lift 9; list 0;")), x -> x.load(2, 0, 0), -1);
        Edge.refused("too heavy, and not borne", Edge.boxes(1).then(Edge.text("lift 9; list 0;")),
                x -> x.load(0, 0, 0), -2);
    }

    static void loadBorne() {
        Edge.sentence("11 load: -3: not BORNE (not beyond, without sign, the greatest LIST, TRIM, BEND)");
        // One of 10 in bay 0, row 0 of three bays: LIST -30, TRIM -20, BEND 30; in bay 2, row 3 the same with +.
        int[][] places = {{0, 0}, {2, 3}};
        for (int[] p : places) {
            Edge.answers("all at their edges", Edge.text("list 30; trim 20; bend 30;").then(Edge.boxes(1)),
                    x -> x.load(0, p[0], p[1]), 2);
            String[] less = {"list 29;", "trim 19;", "bend 29;"};
            for (String text : less) {
                Edge.refused("beyond " + text, Edge.text(text).then(Edge.boxes(1)), x -> x.load(0, p[0], p[1]), -3);
                Edge.refused("beyond " + text + " from the yard", Edge.text(text).then(Edge.boxes(1))
                        .then(Edge.store(0, 1)), x -> x.load(0, p[0], p[1]), -3);
            }
        }
        // In the middle bay, row 1: LIST -10, TRIM 0, BEND 10.
        Edge.answers("the middle", Edge.text("list 10; trim 0; bend 10;").then(Edge.boxes(1)), x -> x.load(0, 1, 1), 2);
        Edge.refused("the middle", Edge.text("bend 9;").then(Edge.boxes(1)), x -> x.load(0, 1, 1), -3);
        Edge.refused("the middle", Edge.text("list 9;").then(Edge.boxes(1)), x -> x.load(0, 1, 2), -3);
    }

    /** Two bays, one of 5 in bay 0, row 0: LIST -15, TRIM -5, BEND 5. */
    static Edge.Deed listing(String text) {
        return Edge.text("bays 2;").then(Edge.box(5, 0, 0)).then(Edge.box(10, 0, 0)).then(Edge.box(1, 0, 0))
                .then(Edge.box(11, 0, 0)).then(Edge.load(0, 0, 0)).then(Edge.text("bays 2;" + text));
    }

    /** Three bays, one of 10 in bay 1, row 0: LIST -30, TRIM 0, BEND 10; one of 1 besides. */
    static Edge.Deed midship(String text) {
        return Edge.box(10, 0, 0).then(Edge.box(1, 0, 0)).then(Edge.load(0, 1, 0)).then(Edge.text(text));
    }

    static void noGreaterThanAhead() {
        Edge.sentence("II: .. or its LIST, TRIM, BEND without sign are each no greater than ahead");
        Edge.Deed none = listing("list 0; trim 0; bend 0;");
        Edge.answers("each as great the other way", none, x -> x.load(1, 1, 3), 2);
        Edge.refused("each greater by a little the other way", none, x -> x.load(3, 1, 3), -3);
        Edge.refused("LIST greater by one", none, x -> x.load(2, 1, 1), -3);
        Edge.answers("LIST less by one", none, x -> x.load(2, 1, 2), 2);
        Edge.refused("TRIM and BEND greater by one", none, x -> x.load(2, 0, 2), -3);
        Edge.answers("all less", none, x -> x.load(2, 1, 3), 2);
        // In bay 0, row 3: LIST -27, TRIM -2, BEND 8. In bay 1, row 3: LIST -27, TRIM 0, BEND 11.
        Edge.refused("TRIM alone greater", midship("list 0; trim 1;"), x -> x.load(1, 0, 3), -3);
        Edge.refused("TRIM alone greater", midship("list 26; trim 2;"), x -> x.load(1, 0, 3), -3);
        Edge.answers("BORNE then", midship("list 27; trim 2; bend 8;"), x -> x.load(1, 0, 3), 2);
        Edge.refused("LIST beyond by one, TRIM greater", midship("list 26; trim 2; bend 8;"), x -> x.load(1, 0, 3),
                -3);
        Edge.refused("BEND alone greater", midship("list 26;"), x -> x.load(1, 1, 3), -3);
        Edge.answers("BORNE then", midship("list 27; bend 11;"), x -> x.load(1, 1, 3), 2);
        Edge.refused("BEND beyond by one, and greater", midship("list 27; bend 10;"), x -> x.load(1, 1, 3), -3);
        Edge.answers("greater, but BORNE", Edge.text("list 3;").then(Edge.box(1, 0, 0)), x -> x.load(0, 0, 0), 2);
    }

    // ---- promise 12

    static void unload() {
        Edge.sentence("12 unload: UNLOADING to a STACK (NONE: AWAY): how many were lifted (1, 2).");
        Edge.Deed one = Edge.boxes(2).then(Edge.load(0, 2, 3));
        Edge.answers("away", one, x -> x.unload(2, 3, -1), 1);
        Edge.answers("the first stack", one, x -> x.unload(2, 3, 0), 1);
        Edge.answers("the last stack", one, x -> x.unload(2, 3, 3), 1);
        Edge.answers("it is there", one.then(x -> x.unload(2, 3, 3)), x -> x.of(0, 5), 3);
        Edge.answers("it is away", one.then(x -> x.unload(2, 3, -1)), x -> x.of(0, 4), 0);
        Edge.answers("the higher one of two", one.then(Edge.load(1, 2, 3)).then(x -> x.unload(2, 3, -1)),
                x -> x.at(2, 3, 2), 0);
        Edge.sentence("12 unload: NONE, and nothing happens: no such ones");
        Edge.refusedFor("no such bay: unload(*, 3, 2)", Edge.BUSY, (x, n) -> x.unload(n, 3, 2), -1, -1, 4, 5,
                Edge.LEAST, Edge.GREATEST);
        Edge.refusedFor("no such row: unload(3, *, 2)", Edge.BUSY, (x, n) -> x.unload(3, n, 2), -1, -1, 4, Edge.LEAST,
                Edge.GREATEST);
        Edge.refusedFor("no such stack: unload(3, 3, *)", Edge.BUSY, (x, n) -> x.unload(3, 3, n), -1, -2, 4,
                Edge.LEAST, Edge.GREATEST);
        Edge.answers("such ones", Edge.BUSY, x -> x.unload(3, 3, 2), 1);
        Edge.sentence("12 unload: NONE, and nothing happens: none stands there");
        Edge.refused("an empty deck", Edge.BUSY, x -> x.unload(3, 2, -1), -1);
        Edge.refused("an empty hold", Edge.BUSY, x -> x.unload(2, 2, -1), -1);
        Edge.refused("a covered hold", Edge.BUSY, x -> x.unload(1, 1, -1), -1);
        Edge.refused("an empty ship", Edge.NEW, x -> x.unload(0, 0, -1), -1);
        Edge.refused("emptied", one.then(x -> x.unload(2, 3, -1)), x -> x.unload(2, 3, -1), -1);
    }

    static void unloadStuck() {
        Edge.sentence("II: If its lock is STUCK and one stands below it on the same HOLD or DECK, both are lifted");
        Edge.Deed deck = Edge.boxes(3).then(Edge.load(0, 0, 1)).then(Edge.load(1, 0, 1));
        Edge.answers("not stuck", deck, x -> x.unload(0, 1, -1), 1);
        Edge.answers("stuck", deck.then(Edge.stuck(1)), x -> x.unload(0, 1, -1), 2);
        Edge.answers("the lower one's lock", deck.then(Edge.stuck(0)), x -> x.unload(0, 1, -1), 1);
        Edge.answers("stuck no more", deck.then(Edge.stuck(1)).then(x -> x.stuck(1, false)),
                x -> x.unload(0, 1, -1), 1);
        Edge.answers("none below", Edge.boxes(1).then(Edge.load(0, 0, 1)).then(Edge.stuck(0)),
                x -> x.unload(0, 1, -1), 1);
        Edge.Deed hold = Edge.boxes(4).then(Edge.uncover(0)).then(Edge.load(0, 0, 1)).then(Edge.load(1, 0, 1));
        Edge.answers("in a hold", hold.then(Edge.stuck(1)), x -> x.unload(0, 1, -1), 2);
        Edge.answers("in a hold, not stuck", hold, x -> x.unload(0, 1, -1), 1);
        Edge.answers("a hold below the deck", hold.then(Edge.recover(0)).then(Edge.load(2, 0, 1)).then(Edge.stuck(2)),
                x -> x.unload(0, 1, -1), 1);
        Edge.answers("another row", Edge.boxes(2).then(Edge.load(0, 0, 1)).then(Edge.load(1, 0, 2))
                .then(Edge.stuck(1)), x -> x.unload(0, 2, -1), 1);
        Edge.sentence("II: .. and come, the lower one first, to the STACK or AWAY.");
        Edge.Deed both = deck.then(Edge.stuck(1)).then(x -> x.unload(0, 1, 3));
        Edge.answers("the lower one's place", both, x -> x.of(0, 7), 0);
        Edge.answers("the higher one's place", both, x -> x.of(1, 7), 1);
        Edge.answers("the lower one's stack", both, x -> x.of(0, 5), 3);
        Edge.answers("none is left", both, x -> x.count(4), 0);
        Edge.Deed away = deck.then(Edge.stuck(1)).then(x -> x.unload(0, 1, -1));
        Edge.answers("the lower one is away", away, x -> x.of(0, 4), 0);
        Edge.answers("the higher one is away", away, x -> x.of(1, 4), 0);
        Edge.answers("its lock is stuck still", away, x -> x.of(1, 3), 1);
    }

    static void unloadRoom() {
        Edge.sentence("12 unload: NONE, and nothing happens: no room");
        Edge.Deed two = Edge.boxes(8).then(Edge.load(0, 0, 1)).then(Edge.load(1, 0, 1));
        for (int high = 0; high <= 4; high++) {
            Edge.Deed some = two.then(Edge.times(high, x -> x.store(2 + x.count(5), 2)));
            if (high <= 3) {
                Edge.answers("one on " + high, some, x -> x.unload(0, 1, 2), 1);
            } else {
                Edge.refused("one on " + high, some, x -> x.unload(0, 1, 2), -1);
            }
            if (high <= 2) {
                Edge.answers("two on " + high, some.then(Edge.stuck(1)), x -> x.unload(0, 1, 2), 2);
            } else {
                Edge.refused("two on " + high, some.then(Edge.stuck(1)), x -> x.unload(0, 1, 2), -1);
            }
            Edge.answers("two away", some.then(Edge.stuck(1)), x -> x.unload(0, 1, -1), 2);
        }
    }

    static void unloadLift() {
        Edge.sentence("12 unload: -2: LIFT");
        Edge.Deed two = Edge.box(10, 0, 0).then(Edge.box(11, 0, 0)).then(Edge.load(0, 0, 1)).then(Edge.load(1, 0, 1));
        Edge.answers("as great as LIFT", two.then(Edge.text("lift 11;")), x -> x.unload(0, 1, -1), 1);
        Edge.refused("one beyond LIFT", two.then(Edge.text("lift 10;")), x -> x.unload(0, 1, -1), -2);
        Edge.answers("two as great as LIFT", two.then(Edge.stuck(1)).then(Edge.text("lift 21;")),
                x -> x.unload(0, 1, 0), 2);
        Edge.refused("two one beyond LIFT", two.then(Edge.stuck(1)).then(Edge.text("lift 20;")),
                x -> x.unload(0, 1, 0), -2);
        Edge.sentence("12 unload: NONE comes ahead of -2, -2 ahead of -3");
        Edge.Deed heavy = Edge.boxes(5).then(Edge.times(4, x -> x.store(x.count(5), 0))).then(Edge.load(4, 0, 0));
        Edge.refused("no room, too heavy", heavy.then(Edge.text("lift 9;")), x -> x.unload(0, 0, 0), -1);
        Edge.refused("too heavy", heavy.then(Edge.text("lift 9;")), x -> x.unload(0, 0, 1), -2);
        Edge.refused("too heavy, not borne", Edge.boxes(2).then(Edge.load(0, 0, 0)).then(Edge.load(1, 0, 3))
                .then(Edge.text("lift 9; list 0;")), x -> x.unload(0, 0, -1), -2);
    }

    static void unloadBorne() {
        Edge.sentence("12 unload: -3: not BORNE");
        // Three bays, 10 in bay 0, row 0 and in bay 2, row 3: LIST 0, TRIM 0. Without the first: 30, 20, BEND 30.
        Edge.Deed both = Edge.boxes(2).then(Edge.load(0, 0, 0)).then(Edge.load(1, 2, 3));
        Edge.answers("all at their edges", both.then(Edge.text("list 30; trim 20; bend 30;")),
                x -> x.unload(0, 0, -1), 1);
        for (String text : new String[] {"list 29;", "trim 19;", "bend 29;"}) {
            Edge.refused("beyond " + text, both.then(Edge.text(text)), x -> x.unload(0, 0, -1), -3);
            Edge.refused("beyond " + text + " to a stack", both.then(Edge.text(text)), x -> x.unload(0, 0, 1), -3);
            Edge.refused("beyond " + text + " the other", both.then(Edge.text(text)), x -> x.unload(2, 3, 1), -3);
        }
        Edge.Deed pair = both.then(Edge.box(5, 0, 0)).then(Edge.load(2, 0, 0)).then(Edge.stuck(2));
        // With one of 5 above the first: LIST -15, TRIM -10. Without both: 30, 20, 30.
        Edge.answers("two, at the edges", pair.then(Edge.text("list 30; trim 20; bend 30;")),
                x -> x.unload(0, 0, -1), 2);
        Edge.refused("two, beyond", pair.then(Edge.text("list 29;")), x -> x.unload(0, 0, -1), -3);
        Edge.refused("two, beyond, to a stack", pair.then(Edge.text("trim 19;")), x -> x.unload(0, 0, 0), -3);
        Edge.sentence("12 unload: done if each is no greater than ahead");
        Edge.Deed alone = Edge.boxes(1).then(Edge.load(0, 0, 0)).then(Edge.text("list 0; trim 0; bend 0;"));
        Edge.answers("all become less", alone, x -> x.unload(0, 0, -1), 1);
        // Two bays: 10 in bay 0, row 3, and 5 in bay 0, row 0: LIST 15; without the 10 -15, TRIM -15 to -5.
        Edge.Deed turned = Edge.text("bays 2;").then(Edge.box(10, 0, 0)).then(Edge.box(5, 0, 0))
                .then(Edge.load(0, 0, 3)).then(Edge.load(1, 0, 0)).then(Edge.text("bays 2; list 14; trim 0;"));
        Edge.answers("LIST as great the other way", turned, x -> x.unload(0, 3, -1), 1);
        Edge.refused("LIST greater", turned, x -> x.unload(0, 0, -1), -3);
    }

    // ---- promises 13 to 16

    static void of() {
        Edge.sentence("13 of: what 0 WEIGHT .. 7 TIER (or place in the STACK).");
        int[][] due = {
            {11, 1, 1, 1, 1, 0, 0, 3},
            {12, 2, 2, 0, 1, 1, 1, 0},
            {15, 0, 5, 0, 1, 3, 3, 2},
            {17, 2, 1, 0, 2, 0, -1, 1},
            {18, 3, 2, 0, 2, 1, -1, 0},
            {21, 1, 5, 0, 0, -1, -1, -1}};
        int[] boxes = {1, 2, 5, 7, 8, 11};
        Edge.sentence("13 of: NONE .. for what it has not");
        for (int i = 0; i < boxes.length; i++) {
            for (int what = 0; what < 8; what++) {
                int box = boxes[i];
                int w = what;
                Edge.answers("of(" + box + ", " + w + ")", Edge.BUSY, x -> x.of(box, w), due[i][w]);
            }
        }
        Edge.sentence("13 of: NONE for others");
        for (int box : boxes) {
            Edge.refusedFor("of(" + box + ", *)", Edge.BUSY, (x, n) -> x.of(box, n), -1, -1, 8, Edge.LEAST,
                    Edge.GREATEST);
        }
        Edge.refusedFor("of(*, 0)", Edge.BUSY, (x, n) -> x.of(n, 0), -1, -1, 12, 30, Edge.LEAST, Edge.GREATEST);
        Edge.refusedFor("of(*, 4)", Edge.BUSY, (x, n) -> x.of(n, 4), -1, -1, 12, 30, Edge.LEAST, Edge.GREATEST);
        Edge.refused("of none", Edge.NEW, x -> x.of(0, 0), -1);
    }

    static void at() {
        Edge.sentence("14 at: The BOX that stands there; NONE: none");
        Edge.answers("at(0, 0, 2)", Edge.BUSY, x -> x.at(0, 0, 2), 0);
        Edge.answers("at(0, 0, 3)", Edge.BUSY, x -> x.at(0, 0, 3), 1);
        Edge.answers("at(3, 3, 2)", Edge.BUSY, x -> x.at(3, 3, 2), 5);
        Edge.answers("at(1, 1, 0)", Edge.BUSY, x -> x.at(1, 1, 0), 2);
        Edge.refused("at(3, 3, 3)", Edge.BUSY, x -> x.at(3, 3, 3), -1);
        Edge.refused("at(0, 0, 1)", Edge.BUSY, x -> x.at(0, 0, 1), -1);
        Edge.sentence("14 at: NONE: no such place.");
        Edge.refusedFor("at(*, 0, 2)", Edge.BUSY, (x, n) -> x.at(n, 0, 2), -1, -1, 4, 5, Edge.LEAST, Edge.GREATEST);
        Edge.refusedFor("at(0, *, 2)", Edge.BUSY, (x, n) -> x.at(0, n, 2), -1, -1, 4, Edge.LEAST, Edge.GREATEST);
        Edge.refusedFor("at(0, 0, *)", Edge.BUSY, (x, n) -> x.at(0, 0, n), -1, -1, 4, Edge.LEAST, Edge.GREATEST);
        // A number beyond its own column must not lead to the next one's place.
        Edge.refused("at(0, 4, 2) is not at(1, 0, 2)", Edge.BUSY, x -> x.at(0, 4, 2), -1);
        Edge.refused("at(1, -1, 2)", Edge.BUSY, x -> x.at(1, -4, 2), -1);
        Edge.refused("at(3, 2, 6) is not at(3, 3, 2)", Edge.BUSY, x -> x.at(3, 2, 6), -1);
    }

    static void ship() {
        Edge.sentence("15 ship: 0 LIST, 1 TRIM, 2 BEND, 3 the WEIGHT of all aboard, 4: 1 if BORNE, else 0.");
        // 10 and 11 in bay 0, row 0; 12, 13, 14 in bay 1, rows 1, 2, 0; 15 in bay 3, row 3; four bays.
        int[] due = {-59, -57, 114, 75, 1};
        for (int what = 0; what < 5; what++) {
            int w = what;
            Edge.answers("ship(" + w + ")", Edge.BUSY, x -> x.ship(w), due[w]);
            Edge.answers("ship(" + w + ") of none aboard", Edge.NEW, x -> x.ship(w), w == 4 ? 1 : 0);
        }
        Edge.sentence("15 ship: -1000000 for others.");
        Edge.refusedFor("ship(*)", Edge.BUSY, (x, n) -> x.ship(n), -1000000, -1, 5, Edge.LEAST, Edge.GREATEST);
    }

    static void borne() {
        Edge.sentence("II: BORNE is what is not beyond (without sign) the greatest LIST, TRIM, BEND.");
        int[][] places = {{0, 0}, {2, 3}};
        for (int[] p : places) {
            Edge.Deed one = Edge.boxes(1).then(Edge.load(0, p[0], p[1]));
            String[] words = {"list", "trim", "bend"};
            int[] edge = {30, 20, 30};
            for (int i = 0; i < 3; i++) {
                Edge.answers(words[i] + " at its edge", one.then(Edge.text(words[i] + " " + edge[i] + ";")),
                        x -> x.ship(4), 1);
                Edge.answers(words[i] + " beyond", one.then(Edge.text(words[i] + " " + (edge[i] - 1) + ";")),
                        x -> x.ship(4), 0);
            }
        }
        Edge.answers("an empty ship", Edge.text("list 0; trim 0; bend 0;"), x -> x.ship(4), 1);
        Edge.sentence("II: BEND: the greatest, without sign, of S(0), S(0) + S(1), .. up to all but the last BAY");
        // Two bays: S(0) = 2 * 10 - 10. Five bays, in bay 2: -10, -20, 20, 10: sums -10, -30, -10, 0.
        Edge.answers("two bays", Edge.text("bays 2;").then(Edge.boxes(1)).then(Edge.load(0, 0, 1)), x -> x.ship(2),
                10);
        Edge.answers("five bays, the middle", Edge.text("bays 5;").then(Edge.boxes(1)).then(Edge.load(0, 2, 1)),
                x -> x.ship(2), 30);
        // In bay 4: -10, -20, -30, -40: sums to -100. In bay 0: 40, 30, 20, 10: sums to 100.
        Edge.answers("five bays, the last", Edge.text("bays 5;").then(Edge.boxes(1)).then(Edge.load(0, 4, 1)),
                x -> x.ship(2), 100);
        Edge.answers("five bays, the first", Edge.text("bays 5;").then(Edge.boxes(1)).then(Edge.load(0, 0, 1)),
                x -> x.ship(2), 100);
    }

    static void would() {
        Edge.sentence("16 would: LIST (0), TRIM (1), BEND (2) if a BOX that is not aboard stood in a BAY and ROW besides");
        Edge.refused("LIST", Edge.BUSY, x -> x.would(11, 3, 3, 0), -59 + 63);
        Edge.refused("TRIM", Edge.BUSY, x -> x.would(11, 3, 3, 1), -57 + 63);
        // Bay weights 21, 39, 0, 36 of 96: S 84 - 96, 240 - 192, 240 - 288: sums -12, 36, -12.
        Edge.refused("BEND", Edge.BUSY, x -> x.would(11, 3, 3, 2), 36);
        Edge.refused("one in the yard, below another", Edge.BUSY, x -> x.would(6, 0, 0, 0), -59 - 48);
        Edge.refused("where no room is", Edge.BUSY, x -> x.would(11, 0, 0, 0), -59 - 63);
        Edge.sentence("16 would: -1000000: no such ones.");
        Edge.refused("aboard", Edge.BUSY, x -> x.would(0, 3, 2, 0), -1000000);
        Edge.refusedFor("would(*, 3, 3, 0)", Edge.BUSY, (x, n) -> x.would(n, 3, 3, 0), -1000000, -1, 12, 30,
                Edge.LEAST, Edge.GREATEST);
        Edge.refusedFor("would(11, *, 3, 0)", Edge.BUSY, (x, n) -> x.would(11, n, 3, 0), -1000000, -1, 4, 5,
                Edge.LEAST, Edge.GREATEST);
        Edge.refusedFor("would(11, 3, *, 0)", Edge.BUSY, (x, n) -> x.would(11, 3, n, 0), -1000000, -1, 4,
                Edge.LEAST, Edge.GREATEST);
        Edge.refusedFor("would(11, 3, 3, *)", Edge.BUSY, (x, n) -> x.would(11, 3, 3, n), -1000000, -1, 3,
                Edge.LEAST, Edge.GREATEST);
    }
}
