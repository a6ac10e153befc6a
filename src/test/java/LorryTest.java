/** Promises 27 to 33: lorries, digs by the rule, the least digs, boxes that block. */
public final class LorryTest {
    /** A yard of these stacks, the lowest box first, and boxes enough. */
    static BoxQuay yard(int[][] stacks, int... lorries) {
        BoxQuay x = new BoxQuay();
        for (int i = 0; i < 30; i++) {
            x.box(1, 0, 0);
        }
        for (int s = 0; s < stacks.length; s++) {
            for (int b : stacks[s]) {
                Due.due("store", x.store(b, s) >= 0, true);
            }
        }
        for (int i = 0; i < lorries.length; i++) {
            Due.due("lorry", x.lorry(lorries[i]), i + 1);
        }
        return x;
    }

    static void digs(BoxQuay x, int... due) {
        Due.due("digs()", x.digs(), due.length);
        for (int i = 0; i < due.length; i++) {
            Due.due("dig(" + i + ")", x.dig(i), due[i]);
        }
        Due.due("no more digs", x.dig(due.length), -1);
        Due.due("dig(-1)", x.dig(-1), -1);
    }

    static void least(BoxQuay x, int... due) {
        Due.due("least()", x.least(), due.length);
        for (int i = 0; i < due.length; i++) {
            Due.due("leastDig(" + i + ")", x.leastDig(i), due[i]);
        }
        Due.due("no more least digs", x.leastDig(due.length), -1);
        Due.due("leastDig(-1)", x.leastDig(-1), -1);
    }

    public static void main(String[] args) {
        lorries();
        rule();
        noRoom();
        fewest();
        leftOut();
        blocked();
        Due.end();
    }

    static void lorries() {
        BoxQuay x = yard(new int[][] {{0, 1, 2, 3}, {4, 5, 6, 7}, {8, 9, 10, 11}, {12}});
        digs(x);
        least(x);
        Due.due("no such box", x.lorry(30), -1);
        Due.due("no such box", x.lorry(-1), -1);
        Due.due("away", x.lorry(20), -1);
        x.load(21, 0, 0);
        Due.due("aboard", x.lorry(21), -1);
        for (int i = 0; i < 12; i++) {
            Due.due("lorry", x.lorry(i), i + 1);
            Due.due("once", x.lorry(i), -1);
        }
        Due.due("a 13th", x.lorry(12), -1);
        Due.due("lorries", x.count(6), 12);
        Due.due("nothing is moved", x.fetch(0), 3);
        Due.due("clear", x.clear(), 12);
        Due.due("clear", x.clear(), 0);
        Due.due("lorries", x.count(6), 0);
        Due.due("again", x.lorry(12), 1);
    }

    static void rule() {
        digs(yard(new int[][] {{0, 1}, {2}, {3}, {}}, 0, 2), 3);
        digs(yard(new int[][] {{0, 1}, {2}, {3}, {4, 5, 6, 7}}, 0, 2), 2);
        digs(yard(new int[][] {{0, 1}, {2}, {3}, {4}}, 0, 2, 3), 3);
        digs(yard(new int[][] {{0, 1}, {2}, {3}, {4}}, 0, 2, 4, 3), 2, 20);
        digs(yard(new int[][] {{0, 1}, {}, {}, {}}, 0), 1);
        digs(yard(new int[][] {{}, {}, {0, 1}, {}}, 0), 20);
        digs(yard(new int[][] {{0, 1}, {2, 3}, {4}, {5}}, 0), 1);
        digs(yard(new int[][] {{0, 1}, {2}, {3, 4, 5, 6}, {7, 8, 9, 10}}, 0, 2), 1, 10);
        digs(yard(new int[][] {{0, 1}, {}, {}, {}}, 1, 0));
        digs(yard(new int[][] {{0, 1, 2, 3}, {}, {}, {}}, 0), 1, 2, 3);
        // The soonest of a stack counts, not its highest.
        digs(yard(new int[][] {{0, 1}, {2, 3}, {4}, {5, 6}}, 0, 2, 4, 3, 5, 6), 3, 10, 30, 31);
        // The yard that is left behind a lorry counts: stack 1 is empty when box 0 is dug for.
        digs(yard(new int[][] {{0, 1}, {2}, {}, {}}, 2, 0), 1);
    }

    static void noRoom() {
        int[][] full = {{0, 1, 2, 3}, {4, 5, 6, 7}, {8, 9, 10, 11}, {12, 13, 14, 15}};
        BoxQuay x = yard(full, 0);
        Due.due("digs", x.digs(), -2);
        Due.due("dig", x.dig(0), -1);
        Due.due("least", x.least(), -2);
        Due.due("leastDig", x.leastDig(0), -1);
        Due.due("blocked", x.blocked(), 3);
        BoxQuay y = yard(full, 3, 0);
        // Box 3 leaves its own stack, where none may be dug to.
        Due.due("digs", y.digs(), -2);
        // Three of stack 0 must go, and only places of stack 0 are free.
        Due.due("least", y.least(), -2);
        BoxQuay z = yard(full, 7, 0);
        Due.due("one place free, two needed", z.digs(), -2);
        Due.due("one place free", z.dig(0), -1);
        BoxQuay six = yard(full, 3, 7, 11, 2);
        digs(six);
        least(six);
    }

    static void fewest() {
        least(yard(new int[][] {{0, 1}, {2}, {3}, {}}, 0, 2), 2);
        least(yard(new int[][] {{0, 1}, {2}, {3}, {}}, 0), 1);
        least(yard(new int[][] {{0, 1, 2}, {}, {}, {}}, 0, 1, 2), 1, 1);
        least(yard(new int[][] {{0, 1, 2}, {3, 4, 5, 6}, {7, 8, 9, 10}, {}}, 0, 2, 1), 3, 3, 30);
        // To stack 1 they would stand on box 4; box 5 goes to stack 0, which is empty by then.
        least(yard(new int[][] {{0, 1, 2, 3}, {4, 5}, {6}, {}}, 0, 4), 2, 2, 2, 10);
        BoxQuay many = yard(new int[][] {{0, 1, 2, 3}, {4, 5, 6, 7}, {8}, {9}}, 0, 4);
        Due.due("six are needed", many.least(), -2);
        Due.due("none told", many.leastDig(0), -1);
        Due.due("the rule does it", many.digs(), 6);
        BoxQuay five = yard(new int[][] {{0, 1, 2, 3}, {4, 5, 6}, {8}, {9}}, 0, 4);
        Due.due("five are needed", five.least(), 5);
        BoxQuay seven = yard(new int[][] {{0, 1, 2, 3}, {4, 5, 6}, {}, {}}, 3, 2, 1, 0, 6, 5, 4);
        Due.due("seven lorries", seven.least(), -3);
        Due.due("none told", seven.leastDig(0), -1);
        digs(seven);
    }

    static void leftOut() {
        BoxQuay x = yard(new int[][] {{0, 1, 2, 3}, {4, 5, 6}, {}, {}}, 6, 3, 2, 1, 0, 5, 4);
        Due.due("seven", x.least(), -3);
        Due.due("one box goes", x.fetch(1), 6);
        least(x);
        Due.due("its lorry stays", x.count(6), 7);
        Due.due("load", x.load(3, 0, 0), 2);
        digs(x);
        Due.due("it comes back", x.store(6, 0), 3);
        Due.due("one comes already", x.lorry(6), -1);
        Due.due("seven lorries, one box aboard", x.least(), 0);
        BoxQuay y = yard(new int[][] {{0, 1, 2}, {}, {}, {}}, 1, 0);
        digs(y, 1);
        y.fetch(0);
        digs(y);
        y.fetch(0);
        digs(y);
        y.fetch(0);
        digs(y);
        least(y);
    }

    static void blocked() {
        Due.due("none comes", yard(new int[][] {{0, 1, 2, 3}}).blocked(), 0);
        Due.due("for the lowest", yard(new int[][] {{0, 1, 2, 3}}, 0).blocked(), 3);
        Due.due("for the highest", yard(new int[][] {{0, 1, 2, 3}}, 3).blocked(), 0);
        Due.due("in order", yard(new int[][] {{0, 1, 2, 3}}, 3, 2, 1, 0).blocked(), 0);
        Due.due("against it", yard(new int[][] {{0, 1, 2, 3}}, 0, 1, 2, 3).blocked(), 3);
        Due.due("not by the next below", yard(new int[][] {{0, 1, 2}}, 0, 2, 1).blocked(), 2);
        Due.due("two stacks", yard(new int[][] {{0, 1}, {2, 3}}, 2, 0).blocked(), 2);
        Due.due("each once", yard(new int[][] {{0, 1, 2}}, 0, 1).blocked(), 2);
    }
}
