/** Promises 55 to 59: lashing, the best places, and what is counted. */
public final class StowTest {
    public static void main(String[] args) {
        lashing();
        manyGangs();
        best();
        bestOfRules();
        bestTwo();
        counts();
        Due.end();
    }

    static void gangs(BoxQuay x, int g, int minutes, int... due) {
        Due.due("lash(" + g + ")", x.lash(g), minutes);
        for (int bay = 0; bay < due.length; bay++) {
            Due.due("gang(" + g + ", " + bay + ")", x.gang(g, bay), due[bay]);
        }
    }

    static void lashing() {
        BoxQuay x = new BoxQuay();
        gangs(x, 1, 0, 0, 0, 0, -1);
        gangs(x, 4, 0, 0, 0, 0, -1);
        Due.due("no gangs", x.lash(0), -1);
        Due.due("five", x.lash(5), -1);
        Due.due("no gangs", x.gang(0, 0), -1);
        Due.due("five", x.gang(5, 0), -1);
        Due.due("no such bay", x.gang(2, -1), -1);
        x.box(20, 0, 0);
        x.box(21, 0, 0);
        x.box(40, 0, 0);
        x.box(1, 0, 0);
        x.box(30, 0, 0);
        x.load(0, 0, 0);
        gangs(x, 1, 2, 0, 0, 0);
        x.load(1, 0, 0);
        gangs(x, 1, 5, 0, 0, 0);
        x.load(2, 1, 0);
        x.load(3, 2, 0);
        gangs(x, 1, 10, 0, 0, 0);
        gangs(x, 2, 5, 0, 1, 1);
        gangs(x, 3, 5, 0, 1, 1);
        x.unload(1, 0, -1);
        x.cover(1, false);
        x.load(2, 1, 0);
        x.load(4, 2, 3);
        // A hold needs none: 5, 0, 5.
        gangs(x, 2, 5, 0, 0, 1);
        gangs(x, 1, 10, 0, 0, 0);
    }

    static void manyGangs() {
        BoxQuay x = new BoxQuay();
        Due.due("read", Due.read(x, "bays 5;"), 0);
        for (int i = 0; i < 30; i++) {
            x.box(1, 0, 0);
        }
        int[] boxes = {3, 3, 2, 2, 2};
        int next = 0;
        for (int bay = 0; bay < 5; bay++) {
            for (int i = 0; i < boxes[bay]; i++) {
                x.load(next++, bay, i);
            }
        }
        // Minutes 6, 6, 4, 4, 4.
        gangs(x, 1, 24, 0, 0, 0, 0, 0, -1);
        gangs(x, 2, 12, 0, 0, 1, 1, 1, -1);
        gangs(x, 3, 10, 0, 1, 0, 1, 2, -1);
        gangs(x, 4, 8, 0, 1, 2, 2, 3, -1);
    }

    static void best() {
        BoxQuay x = new BoxQuay();
        x.box(10, 0, 0);
        x.box(10, 1, 0);
        x.box(10, 0, 0);
        Due.due("the first place", x.best(0), 0);
        Due.due("no such box", x.best(3), -1);
        Due.due("no such box", x.best(-1), -1);
        x.load(0, 0, 0);
        Due.due("aboard", x.best(0), -1);
        Due.due("not above a sooner one", x.best(1), 1);
        Due.due("nothing is moved", x.of(1, 4), 0);
        Due.due("above one as soon", x.best(2), 0);
        x.store(2, 0);
        Due.due("in the yard", x.best(2), -1);
        Due.due("read", Due.read(x, "list 9;"), 0);
        Due.due("list", x.ship(0), -30);
        Due.due("row 3 brings it back", x.best(1), 3);
        Due.due("read", Due.read(x, "list 9; trim 19;"), 0);
        // In bay 0 the trim grows; in bay 1, row 2 list -20, trim -20, bend 30 are no greater than ahead.
        Due.due("no worse, if not borne", x.best(1), 12);
        Due.due("read", Due.read(x, "lift 9;"), 0);
        Due.due("too heavy", x.best(1), -2);
        BoxQuay y = new BoxQuay();
        for (int i = 0; i < 26; i++) {
            y.box(1, 0, 0);
        }
        for (int i = 0; i < 24; i++) {
            y.load(i, i / 8, i / 2 % 4);
        }
        Due.due("no room", y.best(24), -2);
        Due.due("no room", y.bestTwo(24, 25), -2);
        y.unload(1, 2, -1);
        Due.due("one place", y.best(24), 12);
        Due.due("room for one", y.bestTwo(24, 25), -2);
        y.unload(1, 2, -1);
        Due.due("both there", y.bestTwo(24, 25), 1212);
    }

    static void bestOfRules() {
        BoxQuay x = new BoxQuay();
        Due.due("read", Due.read(x, "pair same if sort == osort and bay == obay; place low if row == 0;"
                + "place mid if bay == 1 and row < 3;"), 0);
        x.box(5, 0, 1);
        x.box(5, 1, 1);
        x.box(5, 0, 2);
        Due.due("row 1 of bay 0", x.best(0), 1);
        x.load(0, 0, 1);
        // In bay 0 two ways more, in bay 1 but row 3 one, bay 1 row 3 none.
        Due.due("bay 1, row 3", x.best(1), 13);
        Due.due("another sort", x.best(2), 1);
        x.load(1, 1, 3);
        x.box(5, 2, 1);
        Due.due("bay 2", x.best(3), 21);
        x.box(5, 2, 2);
        Due.due("rules first, then overstows", x.best(4), 2);
        Due.due("read", Due.read(x, "place no if not bay == 0 or not row == 1;"), 0);
        Due.due("an overstow rather than a rule", x.best(4), 1);
    }

    static void bestTwo() {
        BoxQuay x = new BoxQuay();
        x.box(10, 1, 0);
        x.box(10, 0, 0);
        Due.due("the first place for both: 0 above 1 is none", x.bestTwo(0, 1), 0);
        Due.due("1 would be above 0", x.bestTwo(1, 0), 1);
        Due.due("nothing is moved", x.count(4), 0);
        Due.due("one and the same", x.bestTwo(0, 0), -1);
        Due.due("no such box", x.bestTwo(0, 2), -1);
        Due.due("no such box", x.bestTwo(-1, 0), -1);
        Due.due("read", Due.read(x, "pair near if bay == obay; place low if row < 2;"), 0);
        Due.due("other bays, higher rows", x.bestTwo(0, 1), 212);
        Due.due("read", Due.read(x, "list 0;"), 0);
        Due.due("the first alone is not borne", x.bestTwo(0, 1), -2);
        Due.due("read", Due.read(x, "list 10; trim 0;"), 0);
        // One in the middle bay, row 1 or 2, then the other one the same: list -10 and back to 0, or on to -20.
        Due.due("the middle bay", x.bestTwo(0, 1), 1112);
        Due.due("read", Due.read(x, "pair below if tier < otier and bay == obay and row == orow;"
                + "pair beside if bay == obay and not row == orow; place far if 1 <= bay;"), 0);
        // Both in bay 0: one above the other breaks one rule, side by side two ways.
        Due.due("one above the other", x.bestTwo(0, 1), 0);
        // The overstow counts as much as the rule: a bay each is the first with two broken, but one rule is less.
        Due.due("or in bay 1 for the other", x.bestTwo(1, 0), 10);
        Due.due("read", Due.read(x, "place high if tier == 3;"), 0);
        Due.due("not on the first one", x.bestTwo(0, 1), 1);
        Due.due("read", Due.read(x, "place low if tier == 2; place right if 0 < row;"), 0);
        Due.due("on the first one", x.bestTwo(0, 1), 0);
        for (int bay = 0; bay < 3; bay++) {
            x.cover(bay, false);
        }
        Due.due("in the holds", x.best(0), 0);
        Due.due("in the holds", x.bestTwo(0, 1), 0);
        Due.due("read", Due.read(x, "place high if tier == 1; place left if bay + row == 0;"), 0);
        Due.due("in the holds", x.best(0), 1);
        Due.due("side by side in the holds", x.bestTwo(0, 1), 102);
        x.store(0, 0);
        Due.due("not away", x.bestTwo(0, 1), -1);
        Due.due("not away", x.bestTwo(1, 0), -1);
    }

    static void counts() {
        BoxQuay x = new BoxQuay();
        Due.due("read", Due.read(x, "bays 4; list 1000; trim 2000; bend 3000; lift 77;"
                + "pair a if 1 < 0; place b if 1 < 0; place c if 1 < 0;"), 0);
        for (int i = 0; i < 5; i++) {
            x.box(10, 0, 0);
        }
        x.load(0, 0, 1);
        x.load(1, 3, 1);
        x.store(2, 0);
        x.lorry(2);
        x.sight(0, 0);
        x.customs(0, true);
        x.reading(0);
        x.annul(0);
        Due.feed(x, "abc");
        x.cover(1, false);
        x.jobLoad(3, 2, 0);
        x.jobLoad(4, 2, 0);
        x.work(4);
        x.tally(0, 0, true, 0);
        x.tally(1, 0, true, 0);
        x.tally(1, 0, false, 0);
        int[] due = {4, 1, 2, 5, 3, 1, 1, 4, 3, 29, 1000, 2000, 3000, 77, 2, 1, 4, 1, 2, -1};
        for (int i = 0; i < due.length; i++) {
            Due.due("count(" + i + ")", x.count(i), due[i]);
        }
        Due.due("count(-1)", x.count(-1), -1);
        Due.due("count(least)", x.count(Integer.MIN_VALUE), -1);
    }
}
