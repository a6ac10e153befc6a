/** The edges that promises 17 to 26, and what of parts II and III of the terms belongs to them, name. */
public final class EdgeRuleTest {
    public static void main(String[] args) {
        pairs();
        pair();
        places();
        eighth();
        variables();
        comparisons();
        order();
        greatNumbers();
        breaks();
        above();
        overstows();
        overstow();
        covers();
        ticks();
        ticksPassed();
        split();
        Edge.end();
    }

    /** Three aboard on decks, one on another in bay 0, one in bay 2; the fourth away, the fifth in the yard. */
    static final Edge.Deed RULES = Edge.text("plug 0 1; pair all if 1 < 2; pair never if 2 < 1; pair up if tier < otier;"
            + "place some if row == 1; place none if 2 < 1; place other if osort + oweight + oport + obay + orow + otier != 0;")
            .then(Edge.boxes(5)).then(Edge.load(0, 0, 1)).then(Edge.load(1, 0, 1)).then(Edge.load(2, 2, 2))
            .then(Edge.store(4, 0));

    static void pairs() {
        Edge.sentence("17 pairs: How many ways (two BOXES in one order) BREAK a PAIR rule");
        Edge.answers("both orders, none with itself", RULES, x -> x.pairs(0), 6);
        Edge.answers("never", RULES, x -> x.pairs(1), 0);
        Edge.answers("one order", RULES, x -> x.pairs(2), 2);
        Edge.answers("two aboard", RULES.then(x -> x.unload(2, 2, -1)), x -> x.pairs(0), 2);
        Edge.answers("one aboard", RULES.then(x -> x.unload(2, 2, -1)).then(x -> x.unload(0, 1, -1)),
                x -> x.pairs(0), 0);
        Edge.answers("none aboard", Edge.text("pair all if 1<2;"), x -> x.pairs(0), 0);
        Edge.answers("thirty aboard", Edge.text("bays 5; pair all if 1<2;").then(Edge.boxes(30)).then(x -> {
            for (int i = 0; i < 30; i++) {
                x.load(i, i / 8, i / 2 % 4);
            }
        }), x -> x.pairs(0), 870);
        Edge.sentence("17 pairs: NONE: no such one.");
        Edge.refusedFor("pairs(*)", RULES, (x, n) -> x.pairs(n), -1, -1, 3, 8, Edge.LEAST, Edge.GREATEST);
        Edge.refusedFor("pairs(*) without a text", Edge.NEW, (x, n) -> x.pairs(n), -1, -1, 0);
        Edge.refused("a rule of the text ahead", RULES.then(Edge.text("")), x -> x.pairs(0), -1);
    }

    static void pair() {
        Edge.sentence("18 pair: The i-th of them by the first BOX, then the other: 100 * the first + the other");
        int[] due = {1, 2, 100, 102, 200, 201};
        for (int i = 0; i < due.length; i++) {
            int n = i;
            Edge.answers("pair(0, " + i + ")", RULES, x -> x.pair(0, n), due[i]);
        }
        Edge.answers("pair(2, 0)", RULES, x -> x.pair(2, 0), 1);
        Edge.answers("pair(2, 1)", RULES, x -> x.pair(2, 1), 201);
        Edge.sentence("18 pair: NONE: not so many");
        Edge.refusedFor("pair(0, *)", RULES, (x, n) -> x.pair(0, n), -1, -1, 6, Edge.LEAST, Edge.GREATEST);
        Edge.refusedFor("pair(1, *)", RULES, (x, n) -> x.pair(1, n), -1, -1, 0, Edge.LEAST, Edge.GREATEST);
        Edge.sentence("18 pair: NONE: no such one.");
        Edge.refusedFor("pair(*, 0)", RULES, (x, n) -> x.pair(n, 0), -1, -1, 3, 8, Edge.LEAST, Edge.GREATEST);
    }

    static void places() {
        Edge.sentence("19 places: How many BOXES BREAK a PLACE rule");
        Edge.answers("two", RULES, x -> x.places(0), 2);
        Edge.answers("none", RULES, x -> x.places(1), 0);
        Edge.answers("osort .. otier: 0", RULES, x -> x.places(2), 0);
        Edge.answers("none aboard", Edge.text("place a if 1<2;").then(Edge.boxes(2)).then(Edge.store(0, 0)),
                x -> x.places(0), 0);
        Edge.sentence("19 places: NONE: no such one.");
        Edge.refusedFor("places(*)", RULES, (x, n) -> x.places(n), -1, -1, 3, 8, Edge.LEAST, Edge.GREATEST);
        Edge.refusedFor("places(*) without a text", Edge.NEW, (x, n) -> x.places(n), -1, -1, 0);
        Edge.sentence("II: plugged: 1 if a's place has a plug, else 0.");
        Edge.Deed plug = Edge.text("plug 1 2; place y if plugged == 1; place n if plugged == 0; pair p if plugged == 1;")
                .then(Edge.boxes(2)).then(Edge.load(0, 1, 2)).then(Edge.load(1, 1, 1));
        Edge.answers("has one", plug, x -> x.places(0), 1);
        Edge.answers("has none", plug, x -> x.places(1), 1);
        Edge.answers("of a, not of b", plug, x -> x.pair(0, 0), 1);
        Edge.answers("of a alone", plug, x -> x.pairs(0), 1);
    }

    /** Eight of each kind, each true of other boxes. */
    static void eighth() {
        StringBuilder text = new StringBuilder();
        for (int i = 0; i < 8; i++) {
            char name = (char) ('a' + i);
            text.append("pair p").append(name).append(" if weight == ").append(i + 1).append(" and oweight != 9;");
            text.append("place q").append(name).append(" if weight <= ").append(i + 1).append(";");
        }
        Edge.sentence("17, 19: of eight rules each has its own COND");
        Edge.Deed told = Edge.text(text.toString()).then(x -> {
            for (int i = 0; i < 9; i++) {
                x.box(i + 1, 0, 0);
                x.load(i, i / 4, i % 4);
            }
        });
        for (int i = 0; i < 8; i++) {
            int rule = i;
            Edge.answers("pairs(" + i + ")", told, x -> x.pairs(rule), 7);
            Edge.answers("pair(" + i + ", 0)", told, x -> x.pair(rule, 0), i == 0 ? 1 : 100 * i);
            Edge.answers("pair(" + i + ", 6)", told, x -> x.pair(rule, 6), 100 * i + (i == 7 ? 6 : 7));
            Edge.answers("places(" + i + ")", told, x -> x.places(rule), i + 1);
        }
    }

    static void variables() {
        Edge.sentence("II: sort, weight, port, bay, row, tier of a, osort .. otier of b");
        String[] names = {"sort", "weight", "port", "bay", "row", "tier"};
        // a: box 0; b: box 2, on box 1.
        int[] a = {5, 40, 4, 1, 3, 2};
        int[] b = {1, 7, 2, 0, 1, 3};
        Edge.Deed told = Edge.box(40, 4, 5).then(Edge.box(6, 3, 3)).then(Edge.box(7, 2, 1)).then(Edge.load(0, 1, 3))
                .then(Edge.load(1, 0, 1)).then(Edge.load(2, 0, 1));
        for (int i = 0; i < names.length; i++) {
            String both = names[i] + " == " + a[i] + " and o" + names[i] + " == " + b[i];
            String off = names[i] + " == " + a[i] + " and o" + names[i] + " == " + (b[i] + 10);
            Edge.answers(both, told.then(Edge.text("pair p if weight == 40 and oweight == 7 and " + both + ";")),
                    x -> x.pair(0, 0), 2);
            Edge.answers(off, told.then(Edge.text("pair p if " + off + ";")), x -> x.pairs(0), 0);
            Edge.answers(names[i] + " alone", told.then(Edge.text("place p if weight == 40 and " + names[i] + " == " + a[i]
                    + " and o" + names[i] + " == 0;")), x -> x.places(0), 1);
            Edge.answers(names[i] + " alone, another", told.then(Edge.text("place p if weight == 40 and " + names[i]
                    + " == " + (a[i] + 1) + ";")), x -> x.places(0), 0);
        }
    }

    /** Whether a condition holds of a box of weight 10, for port 2, of sort 3, in bay 1, row 2, tier 2. */
    static void holds(String condition, boolean due) {
        Edge.answers(condition, Edge.box(10, 2, 3).then(Edge.load(0, 1, 2)).then(Edge.text("place a if " + condition + ";")),
                x -> x.places(0), due ? 1 : 0);
        Edge.answers("not " + condition, Edge.box(10, 2, 3).then(Edge.load(0, 1, 2))
                .then(Edge.text("place a if 1 == 2 or not not " + condition + ";")), x -> x.places(0), due ? 1 : 0);
    }

    static void comparisons() {
        Edge.sentence("I: E ('==' | '!=' | '<' | '<=') E");
        String[] signs = {"==", "!=", "<", "<="};
        boolean[][] due = {{false, true, true, true}, {true, false, false, true}, {false, true, false, false}};
        for (int i = 0; i < 4; i++) {
            holds("9 " + signs[i] + " weight", due[0][i]);
            holds("10 " + signs[i] + " weight", due[1][i]);
            holds("11 " + signs[i] + " weight", due[2][i]);
            holds("0 - 1 " + signs[i] + " 0", due[0][i]);
            holds("9999 " + signs[i] + " 9999", due[1][i]);
            holds("9999 " + signs[i] + " 9998", due[2][i]);
        }
    }

    static void order() {
        Edge.sentence("I: COND: ALL {'or' ALL}. ALL: LIT {'and' LIT}. E: PART {('+' | '-') PART}. PART: UNIT {'*' UNIT}.");
        holds("1 == 1 or 1 == 1 and 1 == 2", true);
        holds("1 == 2 and 1 == 1 or 1 == 1", true);
        holds("1 == 2 and 1 == 2 or 1 == 2", false);
        holds("2 + 3 * 4 == 14", true);
        holds("2 * 3 + 4 == 10", true);
        holds("20 - 3 * 4 == 8", true);
        holds("10 - 3 - 2 == 5", true);
        holds("10 - 3 + 2 == 9", true);
        holds("10 + 3 - 2 + 1 == 12", true);
        holds("10 - (3 - 2) == 9", true);
        holds("(2 + 3) * (4 - 1) == 15", true);
        holds("2 * (3 + 4) * 5 == 70", true);
        holds("1 + 2 == 4 - 1", true);
        holds("weight * port - sort == 17", true);
        // The deepest that can be: on each of seven levels a sum and a product wait for one unit more.
        holds("511 == 1 + 2 * (1 + 2 * (1 + 2 * (1 + 2 * (1 + 2 * (1 + 2 * (1 + 2 * 3))))))", true);
        holds("1 == 2 or 1 == 1 and 511 == 1 + 2 * (1 + 2 * (1 + 2 * (1 + 2 * (1 + 2 * (1 + 2 * (1 + 2 * 3))))))", true);
        Edge.sentence("I: LIT: 'not' LIT");
        Edge.Deed one = Edge.boxes(1).then(Edge.load(0, 0, 0));
        Edge.answers("not of the first alone", one.then(Edge.text("place a if not 1 == 2 and 1 == 2;")),
                x -> x.places(0), 0);
        Edge.answers("not of the first alone", one.then(Edge.text("place a if not 1 == 1 or 1 == 1;")),
                x -> x.places(0), 1);
        Edge.answers("not of a sum's comparison", one.then(Edge.text("place a if not 1 + 1 == 2;")), x -> x.places(0),
                0);
        Edge.answers("of the second", one.then(Edge.text("place a if 1 == 1 and not 1 == 2;")), x -> x.places(0), 1);
        Edge.answers("thrice", one.then(Edge.text("place a if not not not 1 == 2;")), x -> x.places(0), 1);
    }

    /** The document tells no wrap-around: at the edges of an int and of a long numbers only become greater. */
    static void greatNumbers() {
        Edge.sentence("I: INTS (1 to 4 digits), and no greatest one for sums and products of them");
        String[] powers = {"2048*1024*1024", "4096*1024*1024", "8*1024*1024*1024*1024*1024*1024",
            "16*1024*1024*1024*1024*1024*1024", "9999*9999*9999", "9999*9999*9999*9999*9999",
            "1" + Due.times(40, "*1024")};
        for (String p : powers) {
            holds("0 < " + p, true);
            holds(p + " <= 0", false);
            holds(p + " == 0", false);
            holds(p + " - 1 < " + p, true);
            holds(p + " < " + p + " + 1", true);
            holds(p + " + 1 <= " + p, false);
            holds(p + " == " + p, true);
            holds(p + " - " + p + " == 0", true);
            holds("0 - " + p + " < 0", true);
            holds("0 - " + p + " - 1 < 0 - " + p, true);
            Edge.Deed two = Edge.boxes(2).then(Edge.load(0, 0, 1)).then(Edge.load(1, 0, 2));
            Edge.answers("a pair with " + p, two.then(Edge.text("pair a if 0 < row * " + p + ";")), x -> x.pairs(0), 2);
            Edge.answers("a pair without " + p, two.then(Edge.text("pair a if orow * " + p + " <= 0;")), x -> x.pairs(0),
                    0);
            holds("(0 - " + p + ") * (0 - " + p + ") == " + p + "*" + p, true);
        }
    }

    static void breaks() {
        Edge.sentence("20 breaks: How many rules more (each way counts) would be BROKEN");
        // All: three others, both ways. Up: the new one stands on tier 3 above two on tier 2. Some: row 1.
        Edge.refused("bay 2, row 2, on another", RULES, x -> x.breaks(3, 2, 2), 6 + 2);
        Edge.refused("bay 2, row 1", RULES, x -> x.breaks(3, 2, 1), 6 + 1 + 1);
        Edge.refused("one in the yard", RULES, x -> x.breaks(4, 2, 1), 6 + 1 + 1);
        Edge.refused("one in the yard, below another", RULES.then(Edge.store(3, 0)), x -> x.breaks(4, 2, 1), 8);
        Edge.refused("as the cover lies: into the hold", RULES.then(Edge.uncover(1)), x -> x.breaks(3, 1, 0), 6 + 3);
        Edge.refused("without rules", Edge.boxes(1), x -> x.breaks(0, 0, 0), 0);
        Edge.refused("not borne, too heavy", Edge.text("lift 1; list 0;").then(Edge.boxes(1)), x -> x.breaks(0, 0, 0),
                0);
        Edge.sentence("20 breaks: NONE: no such ones");
        Edge.refused("aboard", RULES, x -> x.breaks(0, 1, 0), -1);
        Edge.refusedFor("breaks(*, 1, 0)", RULES, (x, n) -> x.breaks(n, 1, 0), -1, -1, 5, 30, Edge.LEAST,
                Edge.GREATEST);
        Edge.refusedFor("breaks(3, *, 0)", RULES, (x, n) -> x.breaks(3, n, 0), -1, -1, 3, 4, 5, Edge.LEAST,
                Edge.GREATEST);
        Edge.refusedFor("breaks(3, 1, *)", RULES, (x, n) -> x.breaks(3, 1, n), -1, -1, 4, Edge.LEAST, Edge.GREATEST);
        Edge.sentence("20 breaks: NONE: .. no room.");
        Edge.refused("a full deck", RULES, x -> x.breaks(3, 0, 1), -1);
        Edge.refused("one place left", RULES.then(x -> x.unload(0, 1, -1)), x -> x.breaks(3, 0, 1), 4 + 2 + 1);
        Edge.Deed hold = Edge.boxes(3).then(Edge.uncover(0)).then(Edge.load(0, 0, 0)).then(Edge.load(1, 0, 0));
        Edge.refused("a full hold", hold, x -> x.breaks(2, 0, 0), -1);
        Edge.refused("its cover lies", hold.then(Edge.recover(0)), x -> x.breaks(2, 0, 0), 0);
    }

    static void above() {
        Edge.sentence("21 above: How many BOXES are ABOVE one (those that stand on it; in a HOLD also all on the DECKS)");
        Edge.Deed stack = Edge.boxes(8).then(Edge.uncover(0)).then(Edge.load(0, 0, 0)).then(Edge.load(1, 0, 0))
                .then(Edge.load(2, 0, 3)).then(Edge.recover(0)).then(Edge.load(3, 0, 0)).then(Edge.load(4, 0, 0))
                .then(Edge.load(5, 0, 2)).then(Edge.load(6, 1, 0));
        int[] due = {4, 3, 3, 1, 0, 0, 0};
        for (int row = 0; row < 4; row++) {
            Edge.Deed hold = Edge.boxes(4).then(Edge.uncover(1)).then(Edge.load(0, 1, 3)).then(Edge.recover(1));
            Edge.answers("none on the decks", hold, x -> x.above(0), 0);
            Edge.answers("one on the deck of row " + row, hold.then(Edge.load(1, 1, row)), x -> x.above(0), 1);
            Edge.answers("two on it", hold.then(Edge.load(1, 1, row)).then(Edge.load(2, 1, row)), x -> x.above(0), 2);
            Edge.answers("one of another bay", hold.then(Edge.load(1, 0, row)).then(Edge.load(2, 2, row)),
                    x -> x.above(0), 0);
            Edge.answers("in the hold of row " + row, Edge.boxes(4).then(Edge.uncover(1)).then(Edge.load(0, 1, row))
                    .then(Edge.load(1, 1, (row + 1) % 4)), x -> x.above(0), 0);
        }
        for (int i = 0; i < due.length; i++) {
            int box = i;
            Edge.answers("above(" + i + ")", stack, x -> x.above(box), due[i]);
        }
        Edge.sentence("21 above: NONE: it is not aboard.");
        Edge.refused("away", stack, x -> x.above(7), -1);
        Edge.refused("in the yard", stack.then(Edge.store(7, 0)), x -> x.above(7), -1);
        Edge.refusedFor("above(*)", stack, (x, n) -> x.above(n), -1, -1, 8, 30, Edge.LEAST, Edge.GREATEST);
    }

    /** Of each port one on the deck of a bay, in row 0; below them, in the hold, one of this port. */
    static Edge.Deed below(int port, int deck) {
        return Edge.box(1, port, 0).then(Edge.box(1, deck, 0)).then(Edge.uncover(0)).then(Edge.load(0, 0, 3))
                .then(Edge.recover(0)).then(Edge.load(1, 0, 0));
    }

    static void overstows() {
        Edge.sentence("22 overstows: OVERSTOWS of a PORT: BOXES aboard of a later PORT that are ABOVE some BOX of PORT p");
        for (int port = 0; port < 5; port++) {
            for (int deck = 0; deck < 5; deck++) {
                int p = port;
                Edge.answers("one for " + deck + " above one for " + port, below(port, deck), x -> x.overstows(p),
                        deck > port ? 1 : 0);
                Edge.answers("of all", below(port, deck), x -> x.overstows(-1), deck > port ? 1 : 0);
            }
        }
        Edge.answers("above two of that port counts once", below(0, 1).then(Edge.box(1, 0, 0))
                .then(x -> x.unload(0, 0, -1)).then(Edge.uncover(0)).then(Edge.load(2, 0, 2)).then(Edge.recover(0))
                .then(Edge.load(1, 0, 0)), x -> x.overstows(0), 1);
        Edge.Deed first = Edge.box(1, 3, 0).then(Edge.box(1, 1, 0)).then(Edge.load(1, 0, 0)).then(Edge.load(0, 0, 0));
        Edge.answers("the first box is one", first, x -> x.overstows(1), 1);
        Edge.answers("of all: the first box is one", first, x -> x.overstows(-1), 1);
        Edge.Deed last = Edge.text("bays 5;").then(Edge.boxes(28)).then(Edge.box(1, 0, 0)).then(Edge.box(1, 1, 0))
                .then(Edge.load(28, 4, 3)).then(Edge.load(29, 4, 3));
        Edge.answers("the 30th box is one", last, x -> x.overstows(0), 1);
        Edge.answers("of all: the 30th box is one", last, x -> x.overstows(-1), 1);
        Edge.answers("it is box 29", last, x -> x.overstow(0, 0), 29);
        Edge.answers("not in another bay", below(0, 0).then(Edge.box(1, 4, 0)).then(Edge.load(2, 1, 0)),
                x -> x.overstows(-1), 0);
        Edge.sentence("22 overstows: (NONE: of all), the sum over PORTS");
        // In one hold 0 and 1, on its deck one for 2: above one of each.
        Edge.Deed both = Edge.box(1, 1, 0).then(Edge.box(1, 0, 0)).then(Edge.box(1, 2, 0)).then(Edge.uncover(0))
                .then(Edge.load(0, 0, 0)).then(Edge.load(1, 0, 0)).then(Edge.recover(0)).then(Edge.load(2, 0, 1));
        Edge.answers("of 0", both, x -> x.overstows(0), 1);
        Edge.answers("of 1", both, x -> x.overstows(1), 1);
        Edge.answers("of all", both, x -> x.overstows(-1), 2);
        Edge.answers("none aboard", Edge.NEW, x -> x.overstows(-1), 0);
        Edge.sentence("22 overstows: -2: no such PORT.");
        Edge.answers("the last port", both, x -> x.overstows(4), 0);
        Edge.refusedFor("overstows(*)", both, (x, n) -> x.overstows(n), -2, -2, 5, Edge.LEAST, Edge.GREATEST);
    }

    static void overstow() {
        Edge.Deed deck = Edge.box(1, 4, 0).then(Edge.box(1, 0, 0)).then(Edge.box(1, 3, 0)).then(Edge.box(1, 0, 0))
                .then(Edge.uncover(0)).then(Edge.load(1, 0, 0)).then(Edge.recover(0)).then(Edge.load(2, 0, 1))
                .then(Edge.load(0, 0, 2)).then(Edge.load(3, 0, 3));
        Edge.sentence("23 overstow: The i-th BOX (by numbers) that is an OVERSTOW of a PORT");
        Edge.answers("the first by numbers", deck, x -> x.overstow(0, 0), 0);
        Edge.answers("the second", deck, x -> x.overstow(0, 1), 2);
        Edge.sentence("23 overstow: NONE: not so many");
        Edge.refusedFor("overstow(0, *)", deck, (x, n) -> x.overstow(0, n), -1, -1, 2, Edge.LEAST, Edge.GREATEST);
        Edge.refusedFor("overstow(4, *)", deck, (x, n) -> x.overstow(4, n), -1, -1, 0, Edge.LEAST, Edge.GREATEST);
        Edge.sentence("23 overstow: NONE: .. no such PORT.");
        Edge.refusedFor("overstow(*, 0)", deck, (x, n) -> x.overstow(n, 0), -1, -1, -2, 5, Edge.LEAST, Edge.GREATEST);
    }

    static void covers() {
        Edge.sentence("24 covers: COVERS that must be taken for a PORT (BAYS as bits): a BOX of PORT p in a HOLD, and any on a DECK");
        for (int bay = 0; bay < 5; bay++) {
            for (int tier = 0; tier < 2; tier++) {
                int b = bay;
                Edge.Deed hold = Edge.text("bays 5;").then(Edge.box(1, 4, 0)).then(Edge.box(1, 3, 0))
                        .then(Edge.box(1, 2, 0)).then(Edge.uncover(b)).then(Edge.load(tier, b, 0))
                        .then(Edge.load(1 - tier, b, 0)).then(Edge.recover(b));
                Edge.answers("none on a deck", hold, x -> x.covers(4), 0);
                Edge.Deed deck = hold.then(Edge.load(2, b, 3));
                Edge.answers("one on a deck", deck, x -> x.covers(4), 1 << b);
                Edge.answers("the other in the hold", deck, x -> x.covers(3), 1 << b);
                Edge.answers("the one on the deck", deck, x -> x.covers(2), 0);
                Edge.answers("no box for it", deck, x -> x.covers(0), 0);
                Edge.answers("one on a deck of another bay", hold.then(Edge.load(2, (b + 1) % 5, 3)),
                        x -> x.covers(4), 0);
            }
        }
        Edge.sentence("24 covers: NONE: no such PORT.");
        Edge.refusedFor("covers(*)", below(0, 1), (x, n) -> x.covers(n), -1, -1, 5, Edge.LEAST, Edge.GREATEST);
        Edge.answers("the last port", below(4, 1), x -> x.covers(4), 1);
    }

    static int lifts(int... c) {
        int sum = 0;
        for (int k = c.length - 1; k >= 0; k--) {
            sum = sum * 21 + c[k];
        }
        return sum;
    }

    static void ticks() {
        Edge.sentence("25 ticks: lifts of BAY k are the digit k of lifts to the base 21 (0 .. 20 each)");
        Edge.answers("20 in bay 0", Edge.NEW, x -> x.ticks(20, 3), 40);
        Edge.answers("21: one in bay 1", Edge.NEW, x -> x.ticks(21, 3), 3);
        Edge.answers("440: twenty in bays 0 and 1", Edge.NEW, x -> x.ticks(440, 3), 81);
        Edge.answers("441: one in bay 2", Edge.NEW, x -> x.ticks(441, 3), 4);
        Edge.answers("none", Edge.NEW, x -> x.ticks(0, 0), 0);
        Edge.sentence("25 ticks: NONE: no such s (0 .. BAYS)");
        for (int bays = 2; bays <= 5; bays++) {
            int b = bays;
            Edge.Deed told = Edge.text("bays " + bays + ";");
            Edge.answers("s 0 of " + b, told, x -> x.ticks(1, 0), b + 1);
            Edge.answers("s " + b, told, x -> x.ticks(1, b), 2);
            Edge.refusedFor("ticks(1, *) of " + b, told, (x, n) -> x.ticks(1, n), -1, -1, b + 1, Edge.LEAST,
                    Edge.GREATEST);
        }
        Edge.sentence("25 ticks: NONE: .. lifts below 0");
        Edge.refusedFor("ticks(*, 1)", Edge.NEW, (x, n) -> x.ticks(n, 1), -1, -1, -21, Edge.LEAST);
        Edge.sentence("25 ticks: NONE: .. or with a digit beyond the last BAY.");
        int[] beyond = {441, 9261, 194481, 4084101};
        for (int bays = 2; bays <= 5; bays++) {
            int edge = beyond[bays - 2];
            Edge.Deed told = Edge.text("bays " + bays + ";");
            Edge.answers("the last of " + bays, told, x -> x.ticks(edge - 1, 1) > 0 ? 1 : 0, 1);
            Edge.refusedFor("ticks(*, 1) of " + bays, told, (x, n) -> x.ticks(n, 1), -1, edge, edge + 1, 21 * edge,
                    Edge.GREATEST);
        }
        Edge.answers("all of five bays, s 1", Edge.text("bays 5;"), x -> x.ticks(4084100, 1), 163);
    }

    static void ticksPassed() {
        Edge.Deed five = Edge.text("bays 5;");
        Edge.sentence("III: BAYS without lifts are passed too if there are lifts beyond them for that crane");
        Edge.answers("A passes 0 to 3", five, x -> x.ticks(lifts(0, 0, 0, 0, 1), 5), 6);
        Edge.answers("A passes none behind its last", five, x -> x.ticks(lifts(1, 0, 0, 0, 0), 5), 2);
        Edge.answers("B passes 4 to 1", five, x -> x.ticks(lifts(1, 0, 0, 0, 0), 0), 6);
        Edge.answers("B passes none behind its last", five, x -> x.ticks(lifts(0, 0, 0, 0, 1), 0), 2);
        Edge.answers("not for lifts of the other crane", five, x -> x.ticks(lifts(1, 0, 0, 0, 1), 3), 2);
        Edge.sentence("III: A does BAYS 0 .. s - 1, B the others");
        Edge.answers("bay 2 is B's", five, x -> x.ticks(lifts(1, 0, 1, 0, 0), 2), 4);
        Edge.answers("bay 2 is A's", five, x -> x.ticks(lifts(1, 0, 1, 0, 0), 3), 6);
        Edge.sentence("III: TICKS: those of the one that takes longer");
        Edge.answers("A takes longer", five, x -> x.ticks(lifts(3, 0, 0, 0, 2), 1), 6);
        Edge.answers("B takes longer", five, x -> x.ticks(lifts(2, 0, 0, 0, 3), 1), 6);
    }

    static void split() {
        Edge.Deed five = Edge.text("bays 5;");
        Edge.sentence("26 split: THE SPLIT: the s with the least, of alike ones the least");
        Edge.answers("none", five, x -> x.split(0), 0);
        Edge.answers("all alike", five, x -> x.split(lifts(0, 0, 1)), 0);
        Edge.answers("bay 0 alone", five, x -> x.split(lifts(1)), 1);
        Edge.answers("bay 4 alone", five, x -> x.split(lifts(0, 0, 0, 0, 1)), 0);
        Edge.answers("both ends", five, x -> x.split(lifts(1, 0, 0, 0, 1)), 1);
        Edge.answers("all to A but bay 4", five, x -> x.split(lifts(1, 1, 1, 1, 20)), 4);
        Edge.answers("s of all bays: two bays", Edge.text("bays 2;"), x -> x.split(lifts(1)), 1);
        Edge.sentence("26 split: NONE: no such lifts.");
        Edge.refusedFor("split(*)", Edge.NEW, (x, n) -> x.split(n), -1, -1, Edge.LEAST, 9261, 9262, Edge.GREATEST);
        Edge.answers("the last of three bays", Edge.NEW, x -> x.split(9260), 1);
        Edge.refused("one beyond of five", five, x -> x.split(4084101), -1);
        Edge.answers("the last of five", five, x -> x.split(4084100), 2);
        Edge.refused("one beyond of two", Edge.text("bays 2;"), x -> x.split(441), -1);
        Edge.answers("the last of two", Edge.text("bays 2;"), x -> x.split(440), 1);
    }
}
