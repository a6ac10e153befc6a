/** Promises 17 to 24: pair and place rules, what stands above what, covers that must be taken. */
public final class RuleTest {
    public static void main(String[] args) {
        pairsAndPlaces();
        variables();
        conditions();
        deepest();
        greatNumbers();
        everyRule();
        above();
        overstowsOfMany();
        coversToTake();
        Due.end();
    }

    static void pairsAndPlaces() {
        BoxQuay x = new BoxQuay();
        Due.due("none told", x.pairs(0), -1);
        Due.due("none told", x.pair(0, 0), -1);
        Due.due("none told", x.places(0), -1);
        Due.due("read", Due.read(x, "plug 0 1; pair near if bay == obay and row + 1 == orow;"
                + "place cold if sort == 1 and plugged == 0;"
                + "pair heavy if oweight < weight and tier < otier and row == orow and bay == obay;"
                + "place zero if osort + oweight + oport + obay + orow + otier != 0;"), 0);
        x.box(10, 0, 1);
        x.box(20, 1, 2);
        x.box(5, 2, 1);
        x.box(30, 3, 0);
        x.box(1, 3, 1);
        Due.due("none aboard", x.pairs(0), 0);
        x.load(0, 0, 0);
        x.load(1, 0, 1);
        x.load(2, 0, 1);
        Due.due("near", x.pairs(0), 2);
        Due.due("near", x.pair(0, 0), 1);
        Due.due("near", x.pair(0, 1), 2);
        Due.due("near", x.pair(0, 2), -1);
        Due.due("near", x.pair(0, -1), -1);
        Due.due("heavy", x.pairs(1), 1);
        Due.due("heavy", x.pair(1, 0), 102);
        Due.due("no such rule", x.pairs(2), -1);
        Due.due("no such rule", x.pairs(-1), -1);
        Due.due("no such rule", x.pair(2, 0), -1);
        Due.due("cold", x.places(0), 1);
        Due.due("zero", x.places(1), 0);
        Due.due("no such rule", x.places(2), -1);
        Due.due("no such rule", x.places(-1), -1);
        Due.due("both below are near", x.breaks(3, 0, 2), 2);
        Due.due("above the first", x.breaks(3, 0, 0), 2);
        Due.due("light above the first", x.breaks(4, 0, 0), 4);
        Due.due("cold alone", x.breaks(4, 1, 0), 1);
        Due.due("nothing", x.breaks(3, 1, 0), 0);
        Due.due("no room", x.breaks(3, 0, 1), -1);
        Due.due("aboard", x.breaks(0, 1, 0), -1);
        Due.due("no such box", x.breaks(5, 1, 0), -1);
        Due.due("no such bay", x.breaks(3, 3, 0), -1);
        Due.due("no such row", x.breaks(3, 0, 4), -1);
        x.store(3, 0);
        x.store(4, 0);
        Due.due("not the highest of its stack", x.breaks(3, 0, 2), 2);
        Due.due("nothing has happened", x.of(3, 4), 2);
        Due.due("near", x.pairs(0), 2);
        x.cover(1, false);
        Due.due("into the hold", x.breaks(4, 1, 0), 1);
        x.unload(0, 1, -1);
        Due.due("near", x.pairs(0), 1);
        Due.due("heavy", x.pairs(1), 0);
    }

    /** Each variable, of both boxes, by a pair that tells exactly where and what they are. */
    static void variables() {
        BoxQuay x = new BoxQuay();
        x.box(7, 4, 5);
        x.box(9, 1, 3);
        String a = "sort == 5 and weight == 7 and port == 4 and bay == 2 and row == 3 and tier == 1";
        String b = "osort == 3 and oweight == 9 and oport == 1 and obay == 0 and orow == 2 and otier == 2";
        Due.due("read", Due.read(x, "plug 2 3; pair both if " + a + " and " + b + ";"
                + "pair plugs if plugged == 1; pair all if 1 < 2; place one if " + a + " and plugged == 1;"
                + "place other if not plugged == 1;"), 0);
        x.cover(2, false);
        x.box(1, 0, 0);
        x.load(2, 2, 3);
        x.load(0, 2, 3);
        x.load(1, 0, 2);
        Due.due("both", x.pairs(0), 1);
        Due.due("both", x.pair(0, 0), 1);
        Due.due("plugs: of the first one", x.pairs(1), 4);
        Due.due("plugs", x.pair(1, 0), 1);
        Due.due("plugs", x.pair(1, 1), 2);
        Due.due("plugs", x.pair(1, 2), 200);
        Due.due("plugs", x.pair(1, 3), 201);
        Due.due("all", x.pairs(2), 6);
        Due.due("all", x.pair(2, 5), 201);
        Due.due("one", x.places(0), 1);
        Due.due("other", x.places(1), 1);
    }

    static void holds(String condition, boolean due) {
        BoxQuay x = new BoxQuay();
        x.box(10, 2, 3);
        x.load(0, 1, 2);
        Due.due("read of " + condition, Due.read(x, "place a if " + condition + ";"), 0);
        Due.due(condition, x.places(0), due ? 1 : 0);
        Due.due("read of its like", Due.read(x, "place a if " + condition + " or 1 == 2;"), 0);
        Due.due("its like", x.places(0), due ? 1 : 0);
    }

    static void conditions() {
        holds("2 + 3 * 4 == 14", true);
        holds("(2 + 3) * 4 == 20", true);
        holds("10 - 3 - 2 == 5", true);
        holds("10 - (3 - 2) == 9", true);
        holds("2 * 3 * 4 - 2 * 5 == 14", true);
        holds("1 - 2 < 0", true);
        holds("0 < 1 - 2", false);
        holds("3 <= 3", true);
        holds("4 <= 3", false);
        holds("3 < 3", false);
        holds("3 != 3", false);
        holds("3 == 4", false);
        holds("not 1 == 2 and 1 == 1", true);
        holds("not 1 == 1 and 1 == 1", false);
        holds("not 1 == 2 or 1 == 2", true);
        holds("1 == 1 or 1 == 1 and 1 == 2", true);
        holds("1 == 2 and 1 == 1 or 1 == 1", true);
        holds("1 == 2 and 1 == 2 or 1 == 2", false);
        holds("1 == 1 or 1 == 2 or 1 == 2", true);
        holds("not not 1 == 1", true);
        holds("not not not 1 == 1", false);
        holds("not 1 == 1 or not 1 == 2", true);
        holds("weight * port - sort == 17", true);
        holds("bay * 100 + row * 10 + tier == 122", true);
        holds("((((((weight))))))*((((((2))))))==20", true);
        holds("1-(1-(1-(1-(1-(1-(1)*2)*2)*2)*2)*2)*2 == 43", true);
    }

    /** As many values as ever wait for one more. */
    static void deepest() {
        String deep = "1 + 2 * (1 + 2 * (1 + 2 * (1 + 2 * (1 + 2 * (1 + 2 * (1 + 2 * 3))))))";
        holds("1 == 2 or 1 == 1 and 511 == " + deep, true);
        holds("1 == 2 or 1 == 1 and not 511 == " + deep, false);
        String great = "1 + 9999 * (1 + 9999 * (1 + 9999 * (1 + 9999 * (1 + 9999 * (1 + 9999 * (1 + 9999 * 3))))))";
        holds("1 == 2 or 1 == 1 and 9999 * 9999 * 9999 * 9999 * 9999 * 9999 * 9999 * 3 < " + great, true);
        holds("1 == 2 or 1 == 1 and " + great + " < 9999 * 9999 * 9999 * 9999 * 9999 * 9999 * 9999 * 3", false);
    }

    static void greatNumbers() {
        holds("9999 * 9999 * 9999 == 0 - 1027*1000*1000 - 349*1000 - 969", false);
        holds("0 < 9999 * 9999 * 9999", true);
        holds("9999 * 9999 * 9999 * 9999 * 9999 < 0", false);
        holds("0 - 9999 * 9999 * 9999 * 9999 * 9999 * 9999 < 1", true);
        holds("4096*4096*4096*4096*4096*16 == 0", false);
        holds("4096*4096*4096*4096*4096*16 == 2048*2048*2048*2048*2048*512", true);
        holds("(1000*1000*1000*1000*1000*1000*1000+1)*(1000*1000*1000*1000*1000*1000*1000-1)"
                + "== 1000*1000*1000*1000*1000*1000*1000*1000*1000*1000*1000*1000*1000*1000-1", true);
        holds("9999*9999*9999*9999*9999*9999 - 9999*9999*9999*9999*9999*9999 == 0", true);
        holds("9999*9999*9999*9999*9999*9999 - 9999*9999*9999*9999*9999*9998 <= 0", false);
        holds("(0-9999)*9999*9999*9999*9999*9999 < (0-9998)*9999*9999*9999*9999*9999", true);
        holds("not 9999*9999*9999*9999*9999*9999 != 9999*9999*9999*9999*9999*9999 and 1 == 1", true);
        holds("1" + Due.times(190, "*9999") + "<1", false);
        holds("1 <= 1" + Due.times(190, "*9999"), true);
        holds("(0-1)" + Due.times(189, "*9999") + "<0", true);
        holds("1" + Due.times(190, "*1000") + "==0", false);
        holds("1" + Due.times(190, "*1000") + "<=0", false);
        holds("1" + Due.times(94, "*1000") + "==1000" + Due.times(93, "*1000"), true);
    }

    /** Eight rules of each kind, each true of other boxes; the last ones with great sums. */
    static void everyRule() {
        StringBuilder text = new StringBuilder();
        for (int i = 0; i < 8; i++) {
            char name = (char) ('a' + i);
            text.append("pair p").append(name).append(" if weight<=").append(i).append(" and otier==2;");
            text.append("place q").append(name).append(" if weight<").append(i).append(";");
        }
        BoxQuay x = new BoxQuay();
        for (int i = 0; i < 8; i++) {
            x.box(i + 1, 0, 0);
            x.load(i, i / 4, i % 4);
        }
        Due.due("read", Due.read(x, text.toString()), 0);
        for (int i = 0; i < 8; i++) {
            Due.due("pairs(" + i + ")", x.pairs(i), 7 * i);
            Due.due("places(" + i + ")", x.places(i), Math.max(0, i - 1));
        }
        Due.due("read", Due.read(x, "pair a if weight*9999*9999*9999*9999*9999<3*9999*9999*9999*9999*9999;"
                + "pair b if 1000*1000*1000*1000*1000*1000*1000 < oweight; place c if weight == 8;"
                + "place d if 7*1000*1000*1000*1000*1000*1000*1000 <= weight*1000*1000*1000*1000*1000*1000*1000;"), 0);
        Due.due("great sums", x.pairs(0), 14);
        Due.due("great sums", x.pairs(1), 0);
        Due.due("small sums", x.places(0), 1);
        Due.due("great sums", x.places(1), 2);
        Due.due("the same names again", Due.read(x, "pair a if 1<2; place c if 1<2;"), 0);
        Due.due("small sums again", x.pairs(0), 56);
        Due.due("the same names again", Due.read(x, "pair a if 1<2; place c if 1<2;"), 0);
    }

    static void above() {
        BoxQuay x = new BoxQuay();
        for (int i = 0; i < 8; i++) {
            x.box(1, i % 5, 0);
        }
        Due.due("away", x.above(0), -1);
        Due.due("no such box", x.above(8), -1);
        Due.due("no such box", x.above(-1), -1);
        x.cover(0, false);
        x.load(0, 0, 0);
        x.load(1, 0, 0);
        x.load(2, 0, 1);
        Due.due("one on it", x.above(0), 1);
        Due.due("none", x.above(1), 0);
        Due.due("another row", x.above(2), 0);
        x.cover(0, true);
        x.load(3, 0, 3);
        x.load(4, 0, 3);
        x.load(5, 1, 0);
        Due.due("one on it, two on deck", x.above(0), 3);
        Due.due("two on deck", x.above(1), 2);
        Due.due("two on deck", x.above(2), 2);
        Due.due("one on it", x.above(3), 1);
        Due.due("none", x.above(4), 0);
        Due.due("another bay", x.above(5), 0);
        x.store(6, 0);
        Due.due("in the yard", x.above(6), -1);
    }

    static void overstowsOfMany() {
        BoxQuay x = new BoxQuay();
        int[] ports = {2, 1, 0, 3, 0, 4, 4};
        for (int p : ports) {
            x.box(1, p, 0);
        }
        x.cover(0, false);
        x.load(0, 0, 0);
        x.load(1, 0, 0);
        x.load(2, 0, 1);
        x.load(3, 0, 1);
        Due.due("3 above 0", x.overstows(0), 1);
        Due.due("none of 1", x.overstows(1), 0);
        Due.due("1 leaves sooner than 2", x.overstows(2), 0);
        x.cover(0, true);
        x.load(4, 0, 2);
        x.load(5, 0, 2);
        // On deck: 0 below 4. The 4 is above 0 (twice, once counts), 1, 2, 3.
        Due.due("3 and 4 above 0", x.overstows(0), 2);
        Due.due("4 above 1", x.overstows(1), 1);
        Due.due("4 above 2", x.overstows(2), 1);
        Due.due("4 above 3", x.overstows(3), 1);
        Due.due("none of 4", x.overstows(4), 0);
        Due.due("all", x.overstows(-1), 5);
        Due.due("no such port", x.overstows(5), -2);
        Due.due("no such port", x.overstows(-2), -2);
        Due.due("first", x.overstow(0, 0), 3);
        Due.due("second", x.overstow(0, 1), 5);
        Due.due("no third", x.overstow(0, 2), -1);
        Due.due("below", x.overstow(0, -1), -1);
        Due.due("no such port", x.overstow(5, 0), -1);
        Due.due("not of all", x.overstow(-1, 0), -1);
        Due.due("first", x.overstow(3, 0), 5);
        x.load(6, 1, 2);
        Due.due("another bay", x.overstows(-1), 5);
        BoxQuay y = new BoxQuay();
        y.box(1, 3, 0);
        y.box(1, 1, 0);
        y.cover(0, false);
        y.load(1, 0, 2);
        y.cover(0, true);
        y.load(0, 0, 0);
        Due.due("lowest on deck, another row", y.overstows(1), 1);
        Due.due("box 0", y.overstow(1, 0), 0);
        Due.due("all", y.overstows(-1), 1);
        Due.due("above", y.above(1), 1);
        Due.due("bay 0, box on deck in row 0", y.covers(1), 1);
        Due.due("its cover can't be taken", y.cover(0, false), false);
    }

    static void coversToTake() {
        BoxQuay x = new BoxQuay();
        Due.due("read", Due.read(x, "bays 5;"), 0);
        for (int i = 0; i < 6; i++) {
            x.box(1, i % 3, 0);
        }
        x.cover(1, false);
        x.cover(4, false);
        x.load(0, 1, 0);
        x.load(3, 4, 1);
        x.load(1, 4, 2);
        Due.due("none on deck", x.covers(0), 0);
        x.cover(1, true);
        x.cover(4, true);
        Due.due("none on deck", x.covers(0), 0);
        x.load(2, 4, 3);
        Due.due("bay 4", x.covers(0), 16);
        Due.due("bay 4", x.covers(1), 16);
        Due.due("on deck alone", x.covers(2), 0);
        x.load(4, 1, 3);
        Due.due("bays 1 and 4", x.covers(0), 18);
        Due.due("no such port", x.covers(5), -1);
        Due.due("no such port", x.covers(-1), -1);
    }
}
