/** The edges that promises 27 to 33, and what of part III of the terms belongs to them, name: lorries and digs. */
public final class EdgeYardTest {
    public static void main(String[] args) {
        lorry();
        clear();
        digs();
        ruleStacks();
        dig();
        least();
        leastOrder();
        leastDig();
        leftOut();
        blocked();
        Edge.end();
    }

    /** Thirty boxes, these stacks of them, the lowest one first. */
    static Edge.Deed yard(int[]... stacks) {
        return Edge.boxes(30).then(x -> {
            for (int s = 0; s < stacks.length; s++) {
                for (int box : stacks[s]) {
                    x.store(box, s);
                }
            }
        });
    }

    static int[] of(int... boxes) {
        return boxes;
    }

    static Edge.Deed come(int... boxes) {
        return x -> {
            for (int box : boxes) {
                x.lorry(box);
            }
        };
    }

    static final Edge.Deed FULL = yard(of(0, 1, 2, 3), of(4, 5, 6, 7), of(8, 9, 10, 11), of(12, 13, 14, 15));

    static void lorry() {
        Edge.sentence("27 lorry: A LORRY for a BOX comes behind the others: how many.");
        Edge.answers("the first", FULL, x -> x.lorry(0), 1);
        Edge.answers("the 12th", FULL.then(come(0, 1, 2, 3, 4, 5, 6, 7, 8, 9, 10)), x -> x.lorry(11), 12);
        Edge.sentence("27 lorry: NONE, and nothing happens: 12 are there");
        Edge.refused("the 13th", FULL.then(come(0, 1, 2, 3, 4, 5, 6, 7, 8, 9, 10, 11)), x -> x.lorry(12), -1);
        Edge.refused("12 are there, though a box of them is gone", FULL.then(come(0, 1, 2, 3, 4, 5, 6, 7, 8, 9, 10, 11))
                .then(x -> x.fetch(0)), x -> x.lorry(12), -1);
        Edge.sentence("27 lorry: NONE, and nothing happens: it is not in the YARD");
        Edge.refused("away", FULL, x -> x.lorry(16), -1);
        Edge.refused("aboard", FULL.then(Edge.load(16, 0, 0)), x -> x.lorry(16), -1);
        Edge.refused("fetched", FULL.then(x -> x.fetch(0)), x -> x.lorry(3), -1);
        Edge.refusedFor("no such box: lorry(*)", Edge.BUSY, (x, n) -> x.lorry(n), -1, -1, 12, 30, Edge.LEAST,
                Edge.GREATEST);
        Edge.answers("in the yard", Edge.BUSY, x -> x.lorry(7), 3);
        Edge.sentence("27 lorry: NONE, and nothing happens: one comes for it already");
        Edge.refused("the first one", Edge.BUSY, x -> x.lorry(6), -1);
        Edge.refused("the last one", Edge.BUSY, x -> x.lorry(8), -1);
        Edge.refused("though it was gone meanwhile", Edge.BUSY.then(x -> x.fetch(1)).then(Edge.store(8, 2)),
                x -> x.lorry(8), -1);
        Edge.answers("they went away", Edge.BUSY.then(x -> x.clear()), x -> x.lorry(8), 1);
    }

    static void clear() {
        Edge.sentence("28 clear: All LORRIES go away empty: how many.");
        Edge.answers("none", FULL, x -> x.clear(), 0);
        Edge.answers("one", FULL.then(come(0)), x -> x.clear(), 1);
        Edge.answers("twelve", FULL.then(come(0, 1, 2, 3, 4, 5, 6, 7, 8, 9, 10, 11)), x -> x.clear(), 12);
        Edge.answers("one whose box is gone too", FULL.then(come(3, 0)).then(x -> x.fetch(0)), x -> x.clear(), 2);
        Edge.alike("clear() of some", FULL, FULL.then(come(0, 5, 9)).then(x -> x.clear()));
        Edge.alike("clear() of none", FULL, FULL.then(x -> x.clear()));
    }

    static void digs() {
        Edge.sentence("29 digs: DIGS BY THE RULE");
        Edge.refused("no lorries", FULL, x -> x.digs(), 0);
        Edge.refused("an empty yard", Edge.NEW, x -> x.digs(), 0);
        Edge.refused("the highest", FULL.then(come(3)), x -> x.digs(), 0);
        Edge.refused("three above it", yard(of(0, 1, 2, 3)).then(come(0)), x -> x.digs(), 3);
        Edge.refused("all in their order", FULL.then(come(3, 7, 11, 15, 2, 6, 10, 14, 1, 5, 9, 13)), x -> x.digs(), 0);
        Edge.sentence("29 digs: -2: there is no room");
        Edge.refused("all are full", FULL.then(come(2)), x -> x.digs(), -2);
        Edge.refused("one place elsewhere, one dig", yard(of(0, 1, 2, 3), of(4, 5, 6, 7), of(8, 9, 10, 11),
                of(12, 13, 14)).then(come(2)), x -> x.digs(), 1);
        Edge.refused("one place elsewhere, two digs", yard(of(0, 1, 2, 3), of(4, 5, 6, 7), of(8, 9, 10, 11),
                of(12, 13, 14)).then(come(1)), x -> x.digs(), -2);
        Edge.refused("two places elsewhere, two digs", yard(of(0, 1, 2, 3), of(4, 5, 6, 7), of(8, 9, 10, 11),
                of(12, 13)).then(come(1)), x -> x.digs(), 2);
        Edge.refused("room in its own stack alone", yard(of(0, 1, 2), of(4, 5, 6, 7), of(8, 9, 10, 11),
                of(12, 13, 14, 15)).then(come(1)), x -> x.digs(), -2);
        Edge.refused("no room behind a first lorry that is served", FULL.then(come(3, 1)), x -> x.digs(), -2);
        Edge.refused("room that a first lorry makes", FULL.then(come(7, 2)), x -> x.digs(), 1);
    }

    static void ruleStacks() {
        Edge.sentence("III: the highest of its STACK goes to the STACK with room whose soonest BOX comes latest");
        Edge.refused("stack 2's comes later", yard(of(0, 1), of(4), of(8), of(12, 13, 14, 15)).then(come(0, 4, 8)),
                x -> x.dig(0), 2);
        Edge.refused("stack 1's comes later", yard(of(0, 1), of(4), of(8), of(12, 13, 14, 15)).then(come(0, 8, 4)),
                x -> x.dig(0), 1);
        Edge.refused("the soonest of each counts", yard(of(0, 1), of(4, 5), of(8), of(12, 13, 14, 15))
                .then(come(0, 4, 8, 5)), x -> x.dig(0), 2);
        Edge.sentence("III: (none comes: later than all; empty: latest of all)");
        Edge.refused("none comes", yard(of(0, 1), of(4), of(8), of(12)).then(come(0, 4, 12)), x -> x.dig(0), 2);
        Edge.refused("none comes, against the twelfth", yard(of(0, 1), of(4, 5, 6, 7), of(8), of(12))
                .then(come(0, 7, 6, 5, 4, 12)), x -> x.dig(0), 2);
        Edge.refused("empty, none comes", yard(of(0, 1), of(4), of(), of(12)).then(come(0)), x -> x.dig(0), 2);
        Edge.refused("empty, the last stack", yard(of(0, 1), of(4), of(8), of()).then(come(0)), x -> x.dig(0), 3);
        Edge.sentence("III: of alike ones the least");
        Edge.refused("three empty", yard(of(0, 1)).then(come(0)), x -> x.dig(0), 1);
        Edge.refused("for none of three one comes", yard(of(0, 1), of(4), of(8), of(12)).then(come(0)), x -> x.dig(0),
                1);
        Edge.refused("not its own", yard(of(4), of(0, 1), of(8), of(12)).then(come(0)), x -> x.dig(0), 10);
        Edge.sentence("III: A LORRY whose turn it is takes its BOX as soon as that is the highest (before any DIG)");
        Edge.refused("box 4 is gone by then", yard(of(0, 1), of(4), of(8), of(12)).then(come(4, 0)), x -> x.dig(0), 1);
        Edge.refused("the one dug comes next", yard(of(0, 1, 2)).then(come(0, 1)), x -> x.digs(), 2);
        Edge.refused("a later one waits", yard(of(0, 1), of(4)).then(come(0, 4)), x -> x.dig(0), 2);
    }

    static void dig() {
        Edge.Deed three = yard(of(0, 1, 2, 3)).then(come(0));
        Edge.sentence("30 dig: The i-th DIG BY THE RULE: 10 * the STACK + the one to which");
        Edge.refused("the first", three, x -> x.dig(0), 1);
        Edge.refused("the last", three, x -> x.dig(2), 3);
        Edge.refused("from the last stack", yard(of(), of(), of(), of(0, 1)).then(come(0)), x -> x.dig(0), 30);
        Edge.sentence("30 dig: as many as twelve LORRIES may need");
        Edge.Deed long19 = yard(of(1, 7), of(0, 2, 4, 12), of(5, 8, 9, 11), of(3, 6, 10))
                .then(come(5, 3, 1, 0, 9, 7, 8, 12, 6, 4, 11, 2));
        Oracle slow = new Oracle();
        for (int i = 0; i < 13; i++) {
            slow.box(10, 0, 0);
        }
        int[] stacks = {1, 0, 1, 3, 1, 2, 3, 0, 2, 2, 3, 2, 1};
        for (int i = 0; i < stacks.length; i++) {
            slow.store(i, stacks[i]);
        }
        for (int box : of(5, 3, 1, 0, 9, 7, 8, 12, 6, 4, 11, 2)) {
            slow.lorry(box);
        }
        Edge.refused("nineteen", long19, x -> x.digs(), 19);
        for (int i = -1; i <= 19; i++) {
            int at = i;
            Edge.answers("dig(" + i + ")", long19, x -> x.dig(at), slow.dig(i));
        }
        Edge.sentence("30 dig: NONE: not so many");
        Edge.refusedFor("dig(*)", three, (x, n) -> x.dig(n), -1, -1, 3, 35, 36, Edge.LEAST, Edge.GREATEST);
        Edge.refusedFor("dig(*) of none", FULL, (x, n) -> x.dig(n), -1, -1, 0);
        Edge.sentence("30 dig: NONE: .. no room.");
        Edge.refusedFor("dig(*)", FULL.then(come(0)), (x, n) -> x.dig(n), -1, -1, 0, 1);
        Edge.refused("one was made ahead of it", yard(of(0, 1, 2, 3), of(4, 5, 6, 7), of(8, 9, 10, 11), of(12, 13, 14))
                .then(come(1)), x -> x.dig(0), -1);
    }

    static void least() {
        Edge.sentence("31 least: How many DIGS THE LEAST are");
        Edge.refused("no lorries", FULL, x -> x.least(), 0);
        Edge.refused("one dig", yard(of(0, 1)).then(come(0)), x -> x.least(), 1);
        Edge.sentence("31 least: -2: more than 5 are needed");
        Edge.refused("five", yard(of(0, 1, 2, 3), of(4, 5, 6), of(8), of(9)).then(come(0, 4)), x -> x.least(), 5);
        Edge.refused("six", yard(of(0, 1, 2, 3), of(4, 5, 6, 7), of(8), of(9)).then(come(0, 4)), x -> x.least(), -2);
        Edge.sentence("31 least: -2: .. or it can't be");
        Edge.refused("no room", FULL.then(come(2)), x -> x.least(), -2);
        Edge.refused("one place", yard(of(0, 1, 2, 3), of(4, 5, 6, 7), of(8, 9, 10, 11), of(12, 13, 14)).then(come(2)),
                x -> x.least(), 1);
        Edge.sentence("31 least: -3: more than 6 LORRIES");
        Edge.refused("six", FULL.then(come(3, 2, 1, 0, 7, 6)), x -> x.least(), 0);
        Edge.refused("seven", FULL.then(come(3, 2, 1, 0, 7, 6, 5)), x -> x.least(), -3);
        Edge.refused("twelve", FULL.then(come(3, 2, 1, 0, 7, 6, 5, 4, 11, 10, 9, 8)), x -> x.least(), -3);
        Edge.refused("seven, though there is no room", FULL.then(come(0, 1, 2, 3, 4, 5, 6)), x -> x.least(), -3);
        Edge.refused("six, and no room", FULL.then(come(0, 1, 2, 3, 4, 5)), x -> x.least(), -2);
    }

    static void leastOrder() {
        Edge.sentence("III: of these the first by the DIGS' STACKS (from, then to, DIG by DIG)");
        // To serve 0, box 1 must go; to serve 4, box 5: in either order, the stack 0 first, to the least stack.
        Edge.Deed two = yard(of(0, 1), of(4, 5), of(), of()).then(come(4, 0));
        Edge.refused("from stack 0 first, to stack 2", two, x -> x.leastDig(0), 2);
        Edge.refused("then from stack 1", two, x -> x.leastDig(1), 10 + 2);
        Edge.refused("two", two, x -> x.least(), 2);
        Edge.sentence("III: THE LEAST: the fewest DIGS, of any STACKS");
        // By the rule box 2 has the empty stack 0, box 1 then stands on box 4, which comes sooner.
        Edge.Deed fewer = yard(of(), of(3), of(4), of(0, 1, 2)).then(come(0, 3, 2, 4, 1));
        Edge.refused("three by the rule", fewer, x -> x.digs(), 3);
        Edge.refused("two at least", fewer, x -> x.least(), 2);
        Edge.refused("box 2 to stack 2", fewer, x -> x.leastDig(0), 32);
        Edge.refused("box 1 to stack 0", fewer, x -> x.leastDig(1), 30);
        // Box 7 goes from a stack of its own onto box 2, so that the boxes above 0 stand on none that comes sooner.
        Edge.Deed lone = yard(of(2), of(7), of(0, 1, 3, 5), of(4)).then(come(0, 4, 3, 7, 2));
        Edge.refused("four", lone, x -> x.least(), 4);
        int[] due = {10, 21, 20, 21};
        for (int i = 0; i < due.length; i++) {
            int at = i;
            Edge.refused("dig " + i, lone, x -> x.leastDig(at), due[i]);
        }
        Edge.Deed worse = yard(of(0, 1), of(4), of(8, 9, 10, 11), of(12, 13, 14, 15)).then(come(0, 4, 1));
        Edge.refused("box 1 must go onto 4", worse, x -> x.least(), 2);
        Edge.refused("to stack 1", worse, x -> x.leastDig(0), 1);
        Edge.refused("and back", worse, x -> x.leastDig(1), 10);
    }

    static void leastDig() {
        Edge.Deed five = yard(of(0, 1, 2, 3), of(4, 5, 6), of(8), of(9)).then(come(0, 4));
        Edge.sentence("32 leastDig: The i-th of THE LEAST DIGS");
        Edge.refused("the first", yard(of(0, 1)).then(come(0)), x -> x.leastDig(0), 1);
        Edge.answers("the fifth is one", five, x -> x.leastDig(4) >= 0 ? 1 : 0, 1);
        Edge.sentence("32 leastDig: NONE: not so many");
        Edge.refusedFor("leastDig(*)", yard(of(0, 1)).then(come(0)), (x, n) -> x.leastDig(n), -1, -1, 1, 4, 5,
                Edge.LEAST, Edge.GREATEST);
        Edge.refusedFor("leastDig(*) of five", five, (x, n) -> x.leastDig(n), -1, -1, 5, 6);
        Edge.refused("of none", FULL, x -> x.leastDig(0), -1);
        Edge.sentence("32 leastDig: NONE: .. none told.");
        Edge.refused("-2", FULL.then(come(0)), x -> x.leastDig(0), -1);
        Edge.refused("-3", FULL.then(come(3, 2, 1, 0, 7, 6, 5)), x -> x.leastDig(0), -1);
        Edge.refused("-2 behind one that was told", five.then(x -> x.leastDig(0)).then(Edge.store(7, 1)),
                x -> x.leastDig(0), -1);
    }

    static void leftOut() {
        Edge.sentence("29 digs: (LORRIES whose BOX is no more in the YARD are left out.)");
        Edge.Deed one = yard(of(0, 1, 2)).then(come(1, 0));
        Edge.refused("none is out", one, x -> x.digs(), 1);
        Edge.refused("box 2 is out, and has none", one.then(x -> x.fetch(0)), x -> x.digs(), 0);
        Edge.refused("box 1 is away", one.then(x -> x.fetch(0)).then(x -> x.fetch(0)), x -> x.digs(), 0);
        Edge.refused("all are away", one.then(x -> x.fetch(0)).then(x -> x.fetch(0)).then(x -> x.fetch(0)),
                x -> x.digs(), 0);
        Edge.Deed aboard = yard(of(0, 1, 2)).then(come(2, 0)).then(Edge.load(2, 0, 0));
        Edge.refused("box 2 is aboard", aboard, x -> x.digs(), 1);
        Edge.refused("box 2 is in the yard again", aboard.then(x -> x.unload(0, 0, 0)), x -> x.digs(), 1);
        Edge.refused("box 2 stands on box 0", aboard.then(x -> x.unload(0, 0, 0)), x -> x.blocked(), 1);
        Edge.refused("they are counted still", aboard, x -> x.count(6), 2);
        Edge.sentence("31 least: (Likewise.)");
        Edge.refused("box 2 is aboard", aboard, x -> x.least(), 1);
        Edge.Deed seven = FULL.then(come(3, 2, 1, 0, 7, 6, 5));
        Edge.refused("seven, one box is gone", seven.then(x -> x.fetch(0)), x -> x.least(), 0);
        Edge.refused("eight, one box is gone", seven.then(come(4)).then(x -> x.fetch(0)), x -> x.least(), -3);
        Edge.refused("it is in the yard again", seven.then(x -> x.fetch(0)).then(Edge.store(3, 0)), x -> x.least(), -3);
    }

    static void blocked() {
        Edge.sentence("33 blocked: BOXES that stand on one for which a LORRY comes sooner");
        Edge.refused("an empty yard", Edge.NEW, x -> x.blocked(), 0);
        Edge.refused("sooner below", yard(of(0, 1)).then(come(0, 1)), x -> x.blocked(), 1);
        Edge.refused("later below", yard(of(0, 1)).then(come(1, 0)), x -> x.blocked(), 0);
        Edge.refused("sooner, but not the next below", yard(of(0, 1, 2)).then(come(0, 2, 1)), x -> x.blocked(), 2);
        Edge.refused("sooner in another stack", yard(of(0), of(4)).then(come(0, 4)), x -> x.blocked(), 0);
        Edge.sentence("33 blocked: (or comes at all, if none comes for it)");
        Edge.refused("none comes for the higher one", yard(of(0, 1)).then(come(0)), x -> x.blocked(), 1);
        Edge.refused("none comes for the lower one", yard(of(0, 1)).then(come(1)), x -> x.blocked(), 0);
        Edge.refused("none comes for either", yard(of(0, 1)), x -> x.blocked(), 0);
        Edge.refused("the twelfth comes for the lower one", yard(of(12, 16), of(0, 1, 2, 3), of(4, 5, 6, 7),
                of(8, 9, 10)).then(come(3, 2, 1, 0, 7, 6, 5, 4, 10, 9, 8, 12)), x -> x.blocked(), 1);
        Edge.sentence("33 blocked: each once");
        Edge.refused("two sooner below", yard(of(0, 1, 2)).then(come(0, 1, 2)), x -> x.blocked(), 2);
        Edge.refused("a full yard", FULL.then(come(0, 4, 8, 12)), x -> x.blocked(), 12);
    }
}
