/** Promises 51 to 54: tally books, how they are joined, odd boxes. */
public final class TallyTest {
    public static void main(String[] args) {
        rows();
        mates();
        odd();
        Due.end();
    }

    static BoxQuay with(int boxes) {
        BoxQuay x = new BoxQuay();
        for (int i = 0; i < boxes; i++) {
            x.box(10, 0, 0);
        }
        return x;
    }

    static void rows() {
        BoxQuay x = with(1);
        Due.due("no such book", x.tally(2, 0, true, 0), -1);
        Due.due("no such book", x.tally(-1, 0, true, 0), -1);
        Due.due("no such box", x.tally(0, 1, true, 0), -1);
        Due.due("no such box", x.tally(0, -1, true, 0), -1);
        Due.due("no such tick", x.tally(0, 0, true, -1), -1);
        Due.due("no such tick", x.tally(0, 0, true, 10000), -1);
        for (int i = 0; i < 30; i++) {
            Due.due("row", x.tally(0, 0, true, 9999), i);
        }
        Due.due("a 31st", x.tally(0, 0, true, 0), -1);
        Due.due("the other book", x.tally(1, 0, true, 0), 0);
        Due.due("rows of 0", x.count(17), 30);
        Due.due("rows of 1", x.count(18), 1);
        Due.due("within all", x.mate(0, 9999), 0);
        Due.due("not within", x.mate(0, 9998), -2);
        Due.due("it is taken", x.mate(1, 9999), -2);
        Due.due("no such row", x.mate(30, 0), -1);
        Due.due("no such row", x.mate(-1, 0), -1);
        Due.due("no such d", x.mate(0, 10000), -1);
        Due.due("no such d", x.mate(0, -1), -1);
        Due.due("alone", x.alone(0, 9999), 29);
        Due.due("alone", x.alone(1, 9999), 0);
        Due.due("alone", x.alone(1, 0), 1);
        Due.due("no such book", x.alone(2, 0), -1);
        Due.due("no such book", x.alone(-1, 0), -1);
        Due.due("no such d", x.alone(0, 10000), -1);
        Due.due("no such d", x.alone(0, -1), -1);
    }

    static void mates() {
        BoxQuay x = with(2);
        Due.due("no rows", x.alone(0, 5), 0);
        Due.due("no rows", x.mate(0, 5), -1);
        x.tally(0, 0, true, 10);
        x.tally(0, 0, true, 12);
        x.tally(0, 0, false, 10);
        x.tally(0, 1, true, 10);
        x.tally(1, 0, true, 14);
        x.tally(1, 0, true, 6);
        x.tally(1, 0, true, 13);
        x.tally(1, 1, false, 10);
        Due.due("the nearest", x.mate(0, 5), 2);
        Due.due("the nearest left", x.mate(1, 5), 0);
        Due.due("off has none", x.mate(2, 5), -2);
        Due.due("the other box has none", x.mate(3, 5), -2);
        Due.due("alone in 0", x.alone(0, 5), 2);
        Due.due("alone in 1", x.alone(1, 5), 2);
        Due.due("within 2 none", x.mate(0, 2), -2);
        Due.due("so the second one has it", x.mate(1, 2), 2);
        Due.due("within 0 none", x.alone(0, 0), 4);
        BoxQuay y = with(1);
        y.tally(0, 0, false, 10);
        y.tally(0, 0, false, 10);
        y.tally(1, 0, false, 12);
        y.tally(1, 0, false, 8);
        y.tally(1, 0, false, 12);
        Due.due("of alike ones the first", y.mate(0, 2), 0);
        Due.due("then the next", y.mate(1, 2), 1);
        Due.due("d is the most", y.mate(0, 1), -2);
        Due.due("alone", y.alone(1, 2), 1);
        y.tally(1, 0, false, 10);
        Due.due("in the same tick", y.mate(0, 0), 3);
        Due.due("taken", y.mate(1, 0), -2);
    }

    static void odd() {
        BoxQuay x = with(6);
        Due.due("no rows", x.odd(0), 0);
        Due.due("no such book", x.odd(2), -1);
        Due.due("no such book", x.odd(-1), -1);
        x.tally(0, 0, true, 1);
        Due.due("one more on", x.odd(0), 0);
        x.tally(0, 0, true, 2);
        Due.due("two more on", x.odd(0), 1);
        x.tally(0, 0, false, 3);
        Due.due("one more on", x.odd(0), 0);
        x.tally(0, 0, false, 3);
        Due.due("as many", x.odd(0), 0);
        x.tally(0, 0, false, 3);
        Due.due("one more off", x.odd(0), 1);
        x.tally(0, 5, false, 3);
        x.tally(0, 4, true, 3);
        Due.due("two boxes", x.odd(0), 2);
        Due.due("the other book", x.odd(1), 0);
        x.tally(1, 5, false, 3);
        Due.due("the other book", x.odd(1), 1);
    }
}
