/** Promises 1 and 6 to 16: boxes, covers, the yard's stacks, loading and unloading, the ship's balance. */
public final class ShipTest {
    public static void main(String[] args) {
        newObject();
        boxes();
        covers();
        yard();
        loading();
        unloading();
        balance();
        borne();
        Due.end();
    }

    static void newObject() {
        BoxQuay x = new BoxQuay();
        int[] due = {3, 0, 0, 0, 0, 0, 0, 0, 0, 31, 9999, 9999, 9999, 99, 0, 0, 0, 0, 0};
        for (int i = 0; i < due.length; i++) {
            Due.due("count(" + i + ")", x.count(i), due[i]);
        }
        Due.due("ship(3)", x.ship(3), 0);
        Due.due("crane A", x.crane(0, 0), 0);
        Due.due("crane B", x.crane(1, 0), 2);
        Due.due("place", x.place(), -1);
    }

    static void boxes() {
        BoxQuay x = new BoxQuay();
        int[][] wrong = {{0, 0, 0}, {41, 0, 0}, {-1, 0, 0}, {1, -1, 0}, {1, 5, 0}, {1, 0, -1}, {1, 0, 6}};
        for (int[] w : wrong) {
            Due.due("a wrong box", x.box(w[0], w[1], w[2]), -1);
        }
        for (int i = 0; i < 30; i++) {
            Due.due("box", x.box(1 + i, i % 5, i % 6), i);
        }
        Due.due("a 31st", x.box(1, 0, 0), -1);
        Due.due("boxes", x.count(3), 30);
        int[] due = {8, 2, 1, 0, 0, -1, -1, -1, -1};
        for (int i = 0; i < due.length; i++) {
            Due.due("of(7, " + i + ")", x.of(7, i), due[i]);
        }
        Due.due("of(7, -1)", x.of(7, -1), -1);
        Due.due("of(30, 0)", x.of(30, 0), -1);
        Due.due("of(-1, 0)", x.of(-1, 0), -1);
        Due.due("stuck", x.stuck(7, true), true);
        Due.due("stuck", x.of(7, 3), 1);
        Due.due("stuck", x.stuck(7, false), true);
        Due.due("not stuck", x.of(7, 3), 0);
        Due.due("stuck(30)", x.stuck(30, true), false);
        Due.due("stuck(-1)", x.stuck(-1, true), false);
        BoxQuay edge = new BoxQuay();
        Due.due("box", edge.box(40, 4, 5), 0);
        Due.due("box", edge.box(1, 0, 0), 1);
    }

    static void covers() {
        BoxQuay x = new BoxQuay();
        x.box(5, 0, 0);
        Due.due("no such bay", x.cover(3, false), false);
        Due.due("no such bay", x.cover(-1, false), false);
        Due.due("lies already", x.cover(1, true), false);
        Due.due("taken", x.cover(1, false), true);
        Due.due("taken already", x.cover(1, false), false);
        Due.due("bits", x.count(9), 29);
        Due.due("to the hold", x.load(0, 1, 2), 0);
        Due.due("laid above it", x.cover(1, true), true);
        Due.due("taken from above it", x.cover(1, false), true);
        Due.due("unload", x.unload(1, 2, -1), 1);
        x.cover(1, true);
        Due.due("to the deck", x.load(0, 1, 3), 2);
        Due.due("one stands on it", x.cover(1, false), false);
        Due.due("another bay", x.cover(0, false), true);
        Due.due("five bays", Due.read(x, "bays 5;"), 0);
        Due.due("bits", x.count(9), 30);
        Due.due("the last bay", x.cover(4, false), true);
        Due.due("two bays", Due.read(x, "bays 2;"), 0);
        Due.due("bits", x.count(9), 14);
        Due.due("no more there", x.cover(4, true), false);
        Due.due("no more there", x.cover(2, false), false);
    }

    static void yard() {
        BoxQuay x = new BoxQuay();
        for (int i = 0; i < 7; i++) {
            x.box(1, 0, 0);
        }
        for (int i = 0; i < 4; i++) {
            Due.due("store", x.store(i, 3), i);
        }
        Due.due("full", x.store(4, 3), -1);
        Due.due("no such stack", x.store(4, 4), -1);
        Due.due("no such stack", x.store(4, -1), -1);
        Due.due("no such box", x.store(7, 0), -1);
        Due.due("no such box", x.store(-1, 0), -1);
        Due.due("not away", x.store(0, 0), -1);
        Due.due("load", x.load(5, 0, 0), 2);
        Due.due("aboard", x.store(5, 0), -1);
        Due.due("where", x.of(2, 4), 2);
        Due.due("stack", x.of(2, 5), 3);
        Due.due("no row", x.of(2, 6), -1);
        Due.due("place", x.of(2, 7), 2);
        Due.due("in the yard", x.count(5), 4);
        Due.due("aboard", x.count(4), 1);
        Due.due("fetch", x.fetch(3), 3);
        Due.due("away", x.of(3, 4), 0);
        Due.due("no stack now", x.of(3, 5), -1);
        Due.due("empty", x.fetch(0), -1);
        Due.due("no such stack", x.fetch(4), -1);
        Due.due("no such stack", x.fetch(-1), -1);
        Due.due("a stop", x.customs(2, true), 0);
        Due.due("stopped", x.fetch(3), -2);
        Due.due("still there", x.of(2, 4), 2);
        Due.due("its stop is void", x.annul(0), 1);
        Due.due("fetch", x.fetch(3), 2);
        Due.due("a stop of one below", x.customs(0, true), 2);
        Due.due("fetch", x.fetch(3), 1);
        Due.due("stopped", x.fetch(3), -2);
        Due.due("free", x.customs(0, false), 3);
        Due.due("fetch", x.fetch(3), 0);
        Due.due("empty", x.fetch(3), -1);
    }

    static void loading() {
        BoxQuay x = new BoxQuay();
        for (int i = 0; i < 8; i++) {
            x.box(10, 0, 0);
        }
        Due.due("no such box", x.load(8, 0, 0), -1);
        Due.due("no such box", x.load(-1, 0, 0), -1);
        Due.due("no such bay", x.load(0, 3, 0), -1);
        Due.due("no such bay", x.load(0, -1, 0), -1);
        Due.due("no such row", x.load(0, 0, 4), -1);
        Due.due("no such row", x.load(0, 0, -1), -1);
        x.store(0, 0);
        x.store(1, 0);
        Due.due("not the highest", x.load(0, 1, 1), -1);
        Due.due("the highest", x.load(1, 1, 1), 2);
        Due.due("the highest now", x.load(0, 1, 1), 3);
        Due.due("no room", x.load(2, 1, 1), -1);
        Due.due("aboard already", x.load(0, 1, 2), -1);
        Due.due("the yard is empty", x.fetch(0), -1);
        int[] due = {1, 1, 1, 3};
        for (int i = 0; i < 4; i++) {
            Due.due("of(0, " + (4 + i) + ")", x.of(0, 4 + i), due[i]);
        }
        Due.due("at", x.at(1, 1, 3), 0);
        Due.due("at", x.at(1, 1, 2), 1);
        Due.due("at", x.at(1, 1, 1), -1);
        Due.due("at", x.at(1, 1, 4), -1);
        Due.due("at", x.at(1, 1, -1), -1);
        Due.due("at", x.at(3, 1, 0), -1);
        Due.due("at", x.at(-1, 1, 0), -1);
        Due.due("at", x.at(1, 4, 0), -1);
        Due.due("at", x.at(1, -1, 0), -1);
        x.cover(0, false);
        Due.due("hold", x.load(2, 0, 3), 0);
        Due.due("hold", x.load(3, 0, 3), 1);
        Due.due("no room", x.load(4, 0, 3), -1);
        x.cover(0, true);
        Due.due("deck", x.load(4, 0, 3), 2);
        Due.due("lift 9", Due.read(x, "lift 9;"), 0);
        Due.due("too heavy", x.load(5, 2, 0), -2);
        Due.due("still away", x.of(5, 4), 0);
        Due.due("too heavy, but no room first", x.load(5, 1, 1), -1);
        Due.due("lift 10", Due.read(x, "lift 10;"), 0);
        Due.due("just borne", x.load(5, 2, 0), 2);
        Due.due("a lift as great", x.unload(2, 0, -1), 1);
    }

    static void unloading() {
        BoxQuay x = new BoxQuay();
        for (int i = 0; i < 8; i++) {
            x.box(10 + i, 0, 0);
        }
        Due.due("none there", x.unload(0, 0, -1), -1);
        x.load(0, 0, 0);
        x.load(1, 0, 0);
        Due.due("no such bay", x.unload(3, 0, -1), -1);
        Due.due("no such row", x.unload(0, 4, -1), -1);
        Due.due("no such stack", x.unload(0, 0, 4), -1);
        Due.due("no such stack", x.unload(0, 0, -2), -1);
        Due.due("one", x.unload(0, 0, -1), 1);
        Due.due("away", x.of(1, 4), 0);
        x.load(1, 0, 0);
        x.stuck(0, true);
        Due.due("the lower one's lock", x.unload(0, 0, 0), 1);
        Due.due("in the yard", x.of(1, 4), 2);
        x.load(1, 0, 0);
        x.stuck(1, true);
        x.store(2, 1);
        x.store(3, 1);
        x.store(4, 1);
        Due.due("room for one", x.unload(0, 0, 1), -1);
        Due.due("lift 20", Due.read(x, "lift 20;"), 0);
        Due.due("both are 21", x.unload(0, 0, 0), -2);
        Due.due("no room comes first", x.unload(0, 0, 1), -1);
        Due.due("lift 21", Due.read(x, "lift 21;"), 0);
        Due.due("two", x.unload(0, 0, 2), 2);
        Due.due("the lower one first", x.of(0, 7), 0);
        Due.due("the upper one then", x.of(1, 7), 1);
        Due.due("stack", x.of(1, 5), 2);
        Due.due("alone and stuck", x.load(1, 1, 1), 2);
        Due.due("one", x.unload(1, 1, -1), 1);
        x.cover(2, false);
        x.load(1, 2, 1);
        x.cover(2, true);
        x.load(5, 2, 1);
        x.stuck(5, true);
        Due.due("another floor below it", x.unload(2, 1, -1), 1);
        Due.due("the hold is covered", x.unload(2, 1, -1), -1);
        Due.due("it stands there", x.at(2, 1, 0), 1);
        x.load(5, 2, 1);
        x.stuck(6, true);
        x.load(6, 2, 1);
        Due.due("lift 99", x.read(), 0);
        Due.due("both away", x.unload(2, 1, -1), 2);
        Due.due("away", x.of(5, 4), 0);
        Due.due("away", x.of(6, 4), 0);
        Due.due("still stuck", x.of(6, 3), 1);
        x.load(5, 1, 1);
        x.load(6, 1, 1);
        x.store(7, 3);
        x.fetch(1);
        Due.due("just room for two", x.unload(1, 1, 1), 2);
        Due.due("full", x.unload(2, 1, 1), -1);
    }

    static void balance() {
        BoxQuay x = new BoxQuay();
        Due.due("bays 4", Due.read(x, "bays 4;"), 0);
        x.box(7, 0, 0);
        x.box(20, 0, 0);
        x.box(3, 0, 0);
        x.load(0, 0, 3);
        x.load(1, 2, 1);
        Due.due("list 7 * 3 - 20", x.ship(0), 1);
        Due.due("trim 7 * -3 + 20", x.ship(1), -1);
        // S(0) = 28 - 27 = 1, S(1) = 28 - 54 = -26, S(2) = 108 - 81 = 27: sums 1, -25, 2.
        Due.due("bend", x.ship(2), 25);
        Due.due("weight", x.ship(3), 27);
        Due.due("borne", x.ship(4), 1);
        Due.due("others", x.ship(5), -1000000);
        Due.due("others", x.ship(-1), -1000000);
        Due.due("would list", x.would(2, 3, 0, 0), -8);
        Due.due("would trim", x.would(2, 3, 0, 1), 8);
        // S(0) = 28 - 30 = -2, S(1) = 28 - 60 = -32, S(2) = 108 - 90 = 18: sums -2, -34, -16.
        Due.due("would bend", x.would(2, 3, 0, 2), 34);
        Due.due("would what", x.would(2, 3, 0, 3), -1000000);
        Due.due("would what", x.would(2, 3, 0, -1), -1000000);
        Due.due("aboard", x.would(0, 3, 0, 0), -1000000);
        Due.due("no such box", x.would(3, 3, 0, 0), -1000000);
        Due.due("no such bay", x.would(2, 4, 0, 0), -1000000);
        Due.due("no such row", x.would(2, 0, 4, 0), -1000000);
        x.store(2, 0);
        Due.due("from the yard, be there room or not", x.would(2, 0, 3, 0), 10);
        Due.due("bays 3", Due.read(x, "bays 3; list 1; trim 26;"), 0);
        Due.due("trim by three bays: 7 * -2 + 20 * 2", x.ship(1), 26);
        Due.due("at the edge", x.ship(4), 1);
        Due.due("read", Due.read(x, "bays 3; trim 25;"), 0);
        Due.due("beyond", x.ship(4), 0);
        Due.due("read", Due.read(x, "bays 3; bend 20;"), 0);
        // S(0) = 21 - 27 = -6, S(1) = 21 - 54 = -33: sums -6, -39.
        Due.due("bend", x.ship(2), 39);
        Due.due("beyond", x.ship(4), 0);
        Due.due("read", Due.read(x, "list 0;"), 0);
        Due.due("beyond", x.ship(4), 0);
    }

    static void borne() {
        BoxQuay x = new BoxQuay();
        for (int i = 0; i < 6; i++) {
            x.box(10, 0, 0);
        }
        Due.due("read", Due.read(x, "bays 2; list 29;"), 0);
        Due.due("30 to the left", x.load(0, 1, 0), -3);
        Due.due("nothing happens", x.of(0, 4), 0);
        x.store(0, 0);
        Due.due("nor from the yard", x.load(0, 1, 3), -3);
        Due.due("nothing happens", x.of(0, 4), 2);
        Due.due("read", Due.read(x, "bays 2; list 29; lift 9;"), 0);
        Due.due("lift is told first", x.load(1, 1, 0), -2);
        Due.due("read", Due.read(x, "bays 2; list 30;"), 0);
        Due.due("just borne", x.load(1, 0, 0), 2);
        Due.due("read", Due.read(x, "bays 2;"), 0);
        x.load(2, 1, 0);
        x.load(3, 1, 1);
        Due.due("list", x.ship(0), -70);
        Due.due("trim", x.ship(1), 10);
        Due.due("bend", x.ship(2), 10);
        Due.due("read", Due.read(x, "bays 2; list 5;"), 0);
        Due.due("not borne", x.ship(4), 0);
        Due.due("worse", x.load(4, 0, 1), -3);
        Due.due("better, if not borne", x.load(4, 0, 3), 2);
        Due.due("list", x.ship(0), -40);
        Due.due("not borne", x.ship(4), 0);
        Due.due("unload worse", x.unload(0, 3, -1), -3);
        Due.due("nothing happens", x.at(0, 3, 2), 4);
        Due.due("a better list, a worse trim", x.unload(1, 0, -1), -3);
        Due.due("a better list, a worse trim", x.load(5, 1, 3), -3);
        Due.due("read", Due.read(x, "bays 2; list 10;"), 0);
        Due.due("borne behind it", x.unload(1, 0, -1), 1);
        Due.due("list", x.ship(0), -10);
        Due.due("trim", x.ship(1), -10);
        Due.due("read", Due.read(x, "bays 2; trim 9;"), 0);
        Due.due("trim worse", x.load(2, 0, 1), -3);
        Due.due("trim better", x.load(2, 1, 0), 2);
        Due.due("read", Due.read(x, "bays 2; bend 9;"), 0);
        Due.due("bend worse", x.load(5, 0, 1), -3);
        Due.due("read", Due.read(x, "bays 2; bend 10;"), 0);
        Due.due("bend borne", x.load(5, 0, 1), 2);
        BoxQuay y = new BoxQuay();
        Due.due("read", Due.read(y, "bays 2;"), 0);
        y.box(5, 0, 0);
        y.box(10, 0, 0);
        y.load(0, 0, 0);
        Due.due("read", Due.read(y, "bays 2; list 9; trim 4; bend 4;"), 0);
        // List -15 to 15, trim -5 to 5, bend 5 as before.
        Due.due("as great the other way", y.load(1, 1, 3), 2);
        Due.due("list", y.ship(0), 15);
        Due.due("trim", y.ship(1), 5);
        Due.due("and back", y.unload(1, 3, -1), 1);
        BoxQuay z = new BoxQuay();
        z.box(1, 0, 0);
        z.load(0, 2, 1);
        Due.due("the lightest stands there too", Due.read(z, "bays 2;"), -3);
    }
}
