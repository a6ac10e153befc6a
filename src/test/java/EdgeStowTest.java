/** The edges that part VII of the terms and promises 55 to 59 name; and that calls which only ask change nothing. */
public final class EdgeStowTest {
    public static void main(String[] args) {
        lash();
        minutes();
        gang();
        best();
        bestOrder();
        bestTwo();
        bestTwoOrder();
        count();
        asking();
        Edge.end();
    }

    /** On the decks of five bays: 3, 2, 2, 0, 3 minutes. */
    static final Edge.Deed DECKS = Edge.text("bays 5;").then(Edge.box(21, 0, 0)).then(Edge.box(20, 0, 0))
            .then(Edge.box(20, 0, 0)).then(Edge.box(40, 0, 0)).then(Edge.load(0, 0, 0)).then(Edge.load(1, 1, 0))
            .then(Edge.load(2, 2, 0)).then(Edge.load(3, 4, 0));

    static void lash() {
        Edge.sentence("55 lash: LASHING by g gangs (1 .. 4): the most minutes that one has");
        int[] due = {10, 5, 4, 3};
        for (int g = 1; g <= 4; g++) {
            int gangs = g;
            Edge.refused("lash(" + g + ")", DECKS, x -> x.lash(gangs), due[g - 1]);
            Edge.refused("lash(" + g + ") of none", Edge.NEW, x -> x.lash(gangs), 0);
        }
        Edge.sentence("55 lash: NONE: no such g.");
        Edge.refusedFor("lash(*)", DECKS, (x, n) -> x.lash(n), -1, 0, -1, 5, Edge.LEAST, Edge.GREATEST);
    }

    static void minutes() {
        Edge.sentence("VII: each BOX on a DECK needs 2 minutes, of a WEIGHT above 20 three");
        int[][] due = {{1, 2}, {20, 2}, {21, 3}, {40, 3}};
        for (int[] d : due) {
            Edge.Deed one = Edge.box(d[0], 0, 0);
            Edge.answers("tier 2, of " + d[0], one.then(Edge.load(0, 1, 0)), x -> x.lash(1), d[1]);
            Edge.answers("tier 3, of " + d[0], one.then(Edge.box(1, 0, 0)).then(Edge.load(1, 1, 0))
                    .then(Edge.load(0, 1, 0)), x -> x.lash(1), 2 + d[1]);
            Edge.answers("in a hold, of " + d[0], one.then(Edge.uncover(1)).then(Edge.load(0, 1, 0)),
                    x -> x.lash(1), 0);
            Edge.answers("tier 1, of " + d[0], one.then(Edge.uncover(1)).then(Edge.box(1, 0, 0))
                    .then(Edge.load(1, 1, 0)).then(Edge.load(0, 1, 0)), x -> x.lash(1), 0);
            Edge.answers("in the yard, of " + d[0], one.then(Edge.store(0, 0)), x -> x.lash(1), 0);
        }
    }

    static void gang() {
        Edge.sentence("56 gang: The gang (0 .. g - 1) that has a BAY in it: of these the first: BAY 0 has the least gang");
        int[][] due = {{0, 0, 0, 0, 0}, {0, 0, 1, 0, 1}, {0, 1, 1, 0, 2}, {0, 1, 2, 0, 3}};
        for (int g = 1; g <= 4; g++) {
            for (int bay = 0; bay < 5; bay++) {
                int gangs = g;
                int b = bay;
                Edge.refused("gang(" + g + ", " + bay + ")", DECKS, x -> x.gang(gangs, b), due[g - 1][bay]);
                Edge.refused("gang(" + g + ", " + bay + ") of none", Edge.text("bays 5;"), x -> x.gang(gangs, b), 0);
            }
        }
        Edge.sentence("56 gang: NONE: no such ones.");
        Edge.refusedFor("gang(*, 0)", DECKS, (x, n) -> x.gang(n, 0), -1, 0, -1, 5, Edge.LEAST, Edge.GREATEST);
        Edge.refusedFor("gang(2, *)", DECKS, (x, n) -> x.gang(2, n), -1, -1, 5, Edge.LEAST, Edge.GREATEST);
        Edge.refusedFor("gang(4, *) of three bays", Edge.NEW, (x, n) -> x.gang(4, n), -1, -1, 3, 4, 5);
        Edge.answers("the last of three bays", Edge.NEW, x -> x.gang(4, 2), 0);
    }

    static Edge.Deed fullDecks(int left) {
        return Edge.boxes(28).then(x -> {
            for (int i = 0; i < 24 - left; i++) {
                x.load(i, i / 8, i / 2 % 4);
            }
        });
    }

    static void best() {
        Edge.sentence("57 best: BEST PLACE: 10 * BAY + ROW");
        Edge.refused("the first place", Edge.boxes(1), x -> x.best(0), 0);
        Edge.refused("the last place", fullDecks(1), x -> x.best(24), 23);
        Edge.refused("the last of five bays", Edge.text("bays 5; place a if bay < 4 or row < 3;").then(Edge.boxes(1)),
                x -> x.best(0), 43);
        Edge.sentence("57 best: -2: there is none");
        Edge.refused("no room", fullDecks(0), x -> x.best(24), -2);
        Edge.refused("LIFT", Edge.text("lift 9;").then(Edge.boxes(1)), x -> x.best(0), -2);
        Edge.refused("LIFT at its edge", Edge.text("lift 10;").then(Edge.boxes(1)), x -> x.best(0), 0);
        Edge.refused("LIST", Edge.text("list 9;").then(Edge.boxes(1)), x -> x.best(0), -2);
        Edge.refused("LIST at its edge", Edge.text("list 10;").then(Edge.boxes(1)), x -> x.best(0), 1);
        Edge.sentence("57 best: NONE: no such BOX");
        Edge.refusedFor("best(*)", Edge.BUSY, (x, n) -> x.best(n), -1, -1, 12, 30, Edge.LEAST, Edge.GREATEST);
        Edge.answers("the last box", Edge.BUSY, x -> x.best(11) >= 0 ? 1 : 0, 1);
        Edge.sentence("57 best: NONE: .. not AWAY.");
        Edge.refused("aboard", Edge.BUSY, x -> x.best(0), -1);
        Edge.refused("in the yard", Edge.BUSY, x -> x.best(8), -1);
    }

    static void bestOrder() {
        Edge.sentence("VII: the fewest rules more are BROKEN, of alike ones with the fewest OVERSTOWS, then the first by BAY, ROW");
        // Above the one for port 0 there is no rule, all else breaks one: an overstow rather than a rule.
        Edge.Deed below = Edge.box(10, 0, 0).then(Edge.box(10, 1, 0)).then(Edge.load(0, 0, 1));
        Edge.refused("rules first", below.then(Edge.text("place a if not bay + 1 == row or not tier == 3;")),
                x -> x.best(1), 1);
        Edge.refused("overstows then", below, x -> x.best(1), 0);
        Edge.refused("not above it", below.then(Edge.text("place a if bay == 0 and row == 0;")), x -> x.best(1), 2);
        Edge.refused("then the bay", below.then(Edge.text("place a if row < 2;")), x -> x.best(1), 2);
        Edge.refused("a bay ahead of a row", Edge.text("place a if bay == 0 and row < 3;").then(Edge.boxes(1)),
                x -> x.best(0), 3);
        Edge.sentence("VII: of all BAYS, ROWS to which LOADING could be done now");
        Edge.Deed holds = Edge.boxes(30).then(Edge.uncover(0)).then(Edge.uncover(1)).then(Edge.uncover(2));
        Edge.refused("into a hold", holds, x -> x.best(0), 0);
        Edge.refused("both into a hold", holds, x -> x.bestTwo(0, 1), 0);
        Edge.refused("tier 0 is one", holds.then(Edge.text("place a if tier == 1;")).then(Edge.load(2, 0, 0)),
                x -> x.best(0), 1);
        Edge.refused("both on tier 0", holds.then(Edge.text("place a if tier == 1;")), x -> x.bestTwo(0, 1), 1);
        Edge.refused("full holds", holds.then(x -> {
            for (int i = 0; i < 24; i++) {
                x.load(i, i / 8, i / 2 % 4);
            }
        }), x -> x.best(24), -2);
        Edge.refused("from the yard none", Edge.boxes(1).then(Edge.store(0, 0)), x -> x.best(0), -1);
    }

    static void bestTwo() {
        Edge.sentence("58 bestTwo: 1000 * BAY + 100 * ROW of the first one, 10 * BAY + ROW of the other one");
        Edge.refused("the first places", Edge.boxes(2), x -> x.bestTwo(0, 1), 0);
        Edge.refused("the last places", fullDecks(2), x -> x.bestTwo(24, 25), 2323);
        Edge.refused("the last of five bays", Edge.text("bays 5; place a if bay < 4 or row < 3;").then(Edge.boxes(2)),
                x -> x.bestTwo(0, 1), 4343);
        Edge.sentence("58 bestTwo: -2: there are none");
        Edge.refused("no room", fullDecks(0), x -> x.bestTwo(24, 25), -2);
        Edge.refused("room for one", fullDecks(1), x -> x.bestTwo(24, 25), -2);
        Edge.refused("LIFT of the first", Edge.text("lift 9;").then(Edge.box(10, 0, 0)).then(Edge.box(9, 0, 0)),
                x -> x.bestTwo(0, 1), -2);
        Edge.refused("LIFT of the other", Edge.text("lift 9;").then(Edge.box(10, 0, 0)).then(Edge.box(9, 0, 0)),
                x -> x.bestTwo(1, 0), -2);
        Edge.refused("LIFT at its edge", Edge.text("lift 10;").then(Edge.box(10, 0, 0)).then(Edge.box(9, 0, 0)),
                x -> x.bestTwo(1, 0), 0);
        Edge.refused("the first alone is not BORNE", Edge.text("list 9;").then(Edge.boxes(2)), x -> x.bestTwo(0, 1),
                -2);
        Edge.sentence("58 bestTwo: NONE: no such ones");
        Edge.refusedFor("bestTwo(*, 11)", Edge.BUSY, (x, n) -> x.bestTwo(n, 11), -1, -1, 12, 30, Edge.LEAST,
                Edge.GREATEST);
        Edge.refusedFor("bestTwo(11, *)", Edge.BUSY, (x, n) -> x.bestTwo(11, n), -1, -1, 12, 30, Edge.LEAST,
                Edge.GREATEST);
        Edge.answers("such ones", Edge.BUSY, x -> x.bestTwo(11, 9) >= 0 ? 1 : 0, 1);
        Edge.sentence("58 bestTwo: NONE: .. not AWAY");
        Edge.refused("the first is aboard", Edge.BUSY, x -> x.bestTwo(0, 11), -1);
        Edge.refused("the other is aboard", Edge.BUSY, x -> x.bestTwo(11, 0), -1);
        Edge.refused("the first is in the yard", Edge.BUSY, x -> x.bestTwo(8, 11), -1);
        Edge.refused("the other is in the yard", Edge.BUSY, x -> x.bestTwo(11, 8), -1);
        Edge.sentence("58 bestTwo: NONE: .. one and the same.");
        Edge.refused("one and the same", Edge.BUSY, x -> x.bestTwo(11, 11), -1);
        Edge.refused("one and the same, in an empty quay", Edge.boxes(1), x -> x.bestTwo(0, 0), -1);
    }

    static void bestTwoOrder() {
        Edge.sentence("VII: with the least sum of rules more and OVERSTOWS of all behind both");
        // On one another in bay 0, row 0: an overstow, but no rule; anywhere else a rule each.
        Edge.Deed later = Edge.box(10, 0, 0).then(Edge.box(10, 1, 0));
        Edge.refused("an overstow is as dear as a rule", later.then(Edge.text("place a if not bay + row == 0;")),
                x -> x.bestTwo(0, 1), 0);
        Edge.refused("the other way none", later.then(Edge.text("place a if not bay + row == 0;")),
                x -> x.bestTwo(1, 0), 0);
        Edge.refused("of alike ones the first by the first one's place", later, x -> x.bestTwo(0, 1), 1);
        Edge.refused("then by the other's", later, x -> x.bestTwo(1, 0), 0);
        Edge.refused("rules between both count both ways", later.then(Edge.text("pair p if bay == obay;")),
                x -> x.bestTwo(0, 1), 10);
        // Beside one another two ways, on one another an overstow alone.
        Edge.refused("two ways are dearer than one overstow", later.then(Edge.text("pair p if not row == orow;"
                + "pair q if not bay == obay;")), x -> x.bestTwo(0, 1), 0);
        // What the other one breaks depends on where, and on which tier, it stands.
        Edge.refused("the other not on the first", Edge.text("place a if tier == 3;").then(Edge.boxes(2)),
                x -> x.bestTwo(0, 1), 1);
        Edge.refused("the other on the first", Edge.text("place a if tier == 2;").then(Edge.boxes(2)),
                x -> x.bestTwo(0, 1), 0);
        Edge.refused("the other in the last place", Edge.box(10, 0, 0).then(Edge.box(10, 0, 1))
                .then(Edge.text("place a if sort == 1 and not bay * 4 + row == 11;")), x -> x.bestTwo(0, 1), 23);
        Edge.refused("the other in the last place, higher", Edge.box(10, 0, 0).then(Edge.box(10, 0, 1))
                .then(Edge.text("place a if sort == 1 and not bay * 16 + row * 4 + tier == 47;")), x -> x.bestTwo(0, 1),
                2323);
        Edge.refused("the other one's rules with those aboard", Edge.boxes(3).then(Edge.load(2, 0, 0))
                .then(Edge.text("pair a if bay == obay and tier != otier;")), x -> x.bestTwo(0, 1), 102);
        // LIST 10 at most: the first to row 1, the other then to row 2, or to row 3 of a list of -10 + 30.
        Edge.refused("the other as the first one stands", Edge.text("list 10; trim 0;").then(Edge.boxes(2)),
                x -> x.bestTwo(0, 1), 1112);
    }

    static void count() {
        Edge.sentence("59 count: 0 BAYS .. 17 and 18 rows of TALLY BOOKS 0, 1.");
        int[] due = {4, 1, 1, 12, 6, 3, 2, 5, 8, 27, 200, 9999, 9999, 60, 3, 0, 1, 2, 1};
        for (int what = 0; what < due.length; what++) {
            int w = what;
            Edge.refused("count(" + what + ")", Edge.BUSY, x -> x.count(w), due[what]);
        }
        Edge.answers("15 those that are done", Edge.BUSY.then(x -> x.work(1)), x -> x.count(15), 1);
        Edge.answers("16 ticks that were", Edge.BUSY.then(x -> x.work(200)), x -> x.count(16), 201);
        Edge.answers("9 covers of bays that are not there", Edge.text("bays 2;"), x -> x.count(9), 31);
        Edge.sentence("59 count: NONE for others.");
        Edge.refusedFor("count(*)", Edge.BUSY, (x, n) -> x.count(n), -1, -1, 19, Edge.LEAST, Edge.GREATEST);
    }

    /** Calls that only ask are as refused ones: nothing is changed by them, whatever they answer. */
    static void asking() {
        Edge.sentence("what only asks changes nothing");
        Edge.Deed asks = x -> {
            for (int i = -1; i <= 12; i++) {
                x.of(i, 4);
                x.at(i, 1, 2);
                x.ship(i);
                x.would(i, 2, 1, 2);
                x.pairs(i);
                x.pair(0, i);
                x.places(i);
                x.breaks(i, 2, 1);
                x.above(i);
                x.overstows(i);
                x.overstow(0, i);
                x.covers(i);
                x.ticks(21 * i, 2);
                x.split(i);
                x.dig(i);
                x.leastDig(i);
                x.last(i, 3);
                x.path(i, 3, 0);
                x.stopped(i, 3);
                x.agrees(i);
                x.weighs(i, 4);
                x.suspects(i);
                x.job(i, 0);
                x.crane(i, 1);
                x.mate(i, 3);
                x.alone(i, 3);
                x.odd(i);
                x.lash(i);
                x.gang(i, 1);
                x.best(i);
                x.count(i);
            }
        };
        Edge.alike("asking", Edge.BUSY, Edge.BUSY.then(asks));
        Edge.alike("digs, least, blocked, place", Edge.BUSY, Edge.BUSY.then(x -> x.digs()).then(x -> x.least())
                .then(x -> x.blocked()).then(x -> x.place()));
        Edge.alike("bestTwo", Edge.BUSY, Edge.BUSY.then(x -> {
            for (int a = 9; a <= 11; a++) {
                for (int b = 9; b <= 11; b++) {
                    x.bestTwo(a, b);
                }
            }
        }));
        Edge.sentence("what does something is seen to have done it");
        Edge.Deed[] deeds = {x -> x.feed(1, 2, 3, 4, 5), x -> x.back(1), x -> x.read(), x -> x.box(1, 0, 0),
            x -> x.stuck(0, true), x -> x.cover(2, true), x -> x.store(11, 0), x -> x.fetch(1), x -> x.load(11, 3, 0),
            x -> x.unload(3, 3, -1), x -> x.lorry(7), x -> x.clear(), x -> x.sight(0, 0), x -> x.customs(0, false),
            x -> x.reading(0), x -> x.annul(0), x -> x.jobLoad(11, 0, 0), x -> x.jobUnload(0, 0, 0), x -> x.work(1),
            x -> x.wind(6, 7), x -> x.shifts(8, 3), x -> x.tally(0, 0, true, 0), x -> x.tally(1, 0, true, 0)};
        for (int i = 0; i < deeds.length; i++) {
            Edge.differ("deed " + i, Edge.BUSY, Edge.BUSY.then(deeds[i]));
        }
    }
}
