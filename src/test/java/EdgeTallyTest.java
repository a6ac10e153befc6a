/** The edges that part VI of the terms and promises 51 to 54 name: tally books. */
public final class EdgeTallyTest {
    public static void main(String[] args) {
        tally();
        mate();
        within();
        nearest();
        sameBox();
        alone();
        odd();
        Edge.end();
    }

    static Edge.Deed row(int book, int box, boolean on, int tick) {
        return x -> x.tally(book, box, on, tick);
    }

    static Edge.Deed rows(int book, int n) {
        return Edge.boxes(2).then(Edge.times(n, row(book, 0, true, 7)));
    }

    static void tally() {
        Edge.sentence("51 tally: A row of a TALLY BOOK: its number there.");
        Edge.answers("the first", rows(0, 0), x -> x.tally(0, 0, true, 0), 0);
        for (int book = 0; book < 2; book++) {
            int b = book;
            Edge.answers("the 30th of book " + b, rows(b, 29), x -> x.tally(b, 1, false, 0), 29);
            Edge.answers("the other book's first", rows(b, 30), x -> x.tally(1 - b, 1, false, 0), 0);
            Edge.answers("its rows", rows(b, 30), x -> x.count(17 + b), 30);
            Edge.sentence("51 tally: NONE, and nothing happens: 30 are there");
            Edge.refused("the 31st of book " + b, rows(b, 30), x -> x.tally(b, 1, false, 0), -1);
        }
        Edge.sentence("51 tally: NONE, and nothing happens: no such book");
        Edge.refusedFor("tally(*, 0, true, 0)", Edge.BUSY, (x, n) -> x.tally(n, 0, true, 0), -1, -1, 2, Edge.LEAST,
                Edge.GREATEST);
        Edge.sentence("51 tally: NONE, and nothing happens: .. no such BOX");
        Edge.refusedFor("tally(0, *, true, 0)", Edge.BUSY, (x, n) -> x.tally(0, n, true, 0), -1, -1, 12, 30, Edge.LEAST,
                Edge.GREATEST);
        Edge.refusedFor("tally(1, *, false, 0)", Edge.BUSY, (x, n) -> x.tally(1, n, false, 0), -1, -1, 12);
        Edge.answers("the last box", Edge.BUSY, x -> x.tally(0, 11, true, 0), 2);
        Edge.sentence("51 tally: NONE, and nothing happens: .. no such TICK (0 .. 9999)");
        Edge.refusedFor("tally(0, 0, true, *)", Edge.BUSY, (x, n) -> x.tally(0, 0, true, n), -1, -1, 10000, Edge.LEAST,
                Edge.GREATEST);
        Edge.answers("tick 0", Edge.BUSY, x -> x.tally(0, 0, true, 0), 2);
        Edge.answers("tick 9999", Edge.BUSY, x -> x.tally(1, 0, true, 9999), 1);
    }

    static void mate() {
        Edge.Deed two = Edge.boxes(1).then(row(0, 0, true, 5)).then(row(0, 0, true, 9)).then(row(1, 0, true, 6));
        Edge.sentence("52 mate: The mate (in book 1) of a row of book 0; -2: it has none");
        Edge.refused("the first row", two, x -> x.mate(0, 1), 0);
        Edge.refused("the last row", two, x -> x.mate(1, 1), -2);
        Edge.refused("the 30th row and the 30th mate", rows(0, 30).then(Edge.times(30, row(1, 0, true, 7))),
                x -> x.mate(29, 0), 29);
        Edge.sentence("52 mate: NONE: no such ones.");
        Edge.refusedFor("mate(*, 1)", two, (x, n) -> x.mate(n, 1), -1, -1, 2, 30, Edge.LEAST, Edge.GREATEST);
        Edge.refused("no rows at all", Edge.boxes(1), x -> x.mate(0, 1), -1);
        Edge.refused("rows of book 1 alone", rows(1, 3), x -> x.mate(0, 1), -1);
        Edge.refused("the 31st row", rows(0, 30), x -> x.mate(30, 1), -1);
        Edge.sentence("52 mate: JOINED within d (0 .. 9999)");
        Edge.refusedFor("mate(0, *)", two, (x, n) -> x.mate(0, n), -1, -1, 10000, Edge.LEAST, Edge.GREATEST);
        Edge.refused("d 0", two, x -> x.mate(0, 0), -2);
        Edge.refused("d 9999", two, x -> x.mate(0, 9999), 0);
    }

    static void within() {
        Edge.sentence("VI: whose TICK is d away at most");
        int[][] ticks = {{100, 107}, {107, 100}, {0, 7}, {9999, 9992}};
        for (int[] t : ticks) {
            Edge.Deed told = Edge.boxes(1).then(row(0, 0, true, t[0])).then(row(1, 0, true, t[1]));
            Edge.answers(t[0] + " and " + t[1] + " within 6", told, x -> x.mate(0, 6), -2);
            Edge.answers(t[0] + " and " + t[1] + " within 7", told, x -> x.mate(0, 7), 0);
        }
        Edge.Deed far = Edge.boxes(1).then(row(0, 0, true, 0)).then(row(1, 0, true, 9999));
        Edge.answers("9999 away within 9998", far, x -> x.mate(0, 9998), -2);
        Edge.answers("9999 away within 9999", far, x -> x.mate(0, 9999), 0);
        Edge.Deed same = Edge.boxes(1).then(row(0, 0, true, 4)).then(row(1, 0, true, 4));
        Edge.answers("the same tick within 0", same, x -> x.mate(0, 0), 0);
    }

    static void nearest() {
        Edge.sentence("VI: the nearest, of alike ones the first");
        Edge.Deed some = Edge.boxes(1).then(row(0, 0, true, 10)).then(row(1, 0, true, 13)).then(row(1, 0, true, 8))
                .then(row(1, 0, true, 12));
        Edge.answers("the nearest of two, of alike ones the first", some, x -> x.mate(0, 9), 1);
        Edge.answers("one nearer behind them", some.then(row(1, 0, true, 9)), x -> x.mate(0, 9), 3);
        Edge.answers("as near behind them", some.then(row(1, 0, true, 8)), x -> x.mate(0, 9), 1);
        Edge.sentence("VI: row by row of book 0, as they were told, .. not mate of one yet");
        Edge.Deed taken = Edge.boxes(1).then(row(0, 0, true, 10)).then(row(0, 0, true, 12)).then(row(1, 0, true, 12))
                .then(row(1, 0, true, 13));
        Edge.answers("the first row has the nearest", taken, x -> x.mate(0, 9), 0);
        Edge.answers("the second row what is left, though farther", taken, x -> x.mate(1, 9), 1);
        Edge.answers("none is left within 0", taken, x -> x.mate(1, 0), 0);
        Edge.answers("three for two", taken.then(row(0, 0, true, 12)), x -> x.mate(2, 9), -2);
    }

    static void sameBox() {
        Edge.sentence("VI: of the same BOX, on or off");
        boolean[] both = {true, false};
        for (boolean on : both) {
            Edge.Deed one = Edge.boxes(2).then(row(0, 0, on, 5));
            Edge.answers("the same", one.then(row(1, 0, on, 5)), x -> x.mate(0, 0), 0);
            Edge.answers("another box", one.then(row(1, 1, on, 5)), x -> x.mate(0, 9999), -2);
            Edge.answers("not the same on or off", one.then(row(1, 0, !on, 5)), x -> x.mate(0, 9999), -2);
        }
    }

    static void alone() {
        Edge.Deed some = Edge.boxes(1).then(row(0, 0, true, 5)).then(row(0, 0, true, 9)).then(row(0, 0, false, 5))
                .then(row(1, 0, true, 6));
        Edge.sentence("53 alone: How many rows without a mate a book has, JOINED within d");
        Edge.refused("book 0 within 0", some, x -> x.alone(0, 0), 3);
        Edge.refused("book 0 within 1", some, x -> x.alone(0, 1), 2);
        Edge.refused("book 1 within 0", some, x -> x.alone(1, 0), 1);
        Edge.refused("book 1 within 1", some, x -> x.alone(1, 1), 0);
        Edge.refused("book 1 within 9999", some, x -> x.alone(1, 9999), 0);
        Edge.refused("no rows", Edge.NEW, x -> x.alone(0, 0), 0);
        Edge.refused("thirty", rows(0, 30), x -> x.alone(0, 9999), 30);
        Edge.refused("thirty with mates", rows(0, 30).then(Edge.times(30, row(1, 0, true, 7))), x -> x.alone(1, 0), 0);
        Edge.sentence("53 alone: NONE: no such ones.");
        Edge.refusedFor("alone(*, 0)", some, (x, n) -> x.alone(n, 0), -1, -1, 2, Edge.LEAST, Edge.GREATEST);
        Edge.refusedFor("alone(0, *)", some, (x, n) -> x.alone(0, n), -1, -1, 10000, Edge.LEAST, Edge.GREATEST);
        Edge.refusedFor("alone(1, *)", some, (x, n) -> x.alone(1, n), -1, -1, 10000, Edge.LEAST, Edge.GREATEST);
    }

    static void odd() {
        Edge.sentence("54 odd: How many BOXES have not as many rows on as off, or one more on, in a book");
        for (int on = 0; on <= 4; on++) {
            for (int off = 0; off <= 4; off++) {
                Edge.Deed told = Edge.boxes(3).then(Edge.times(on, row(0, 1, true, 3)))
                        .then(Edge.times(off, row(0, 1, false, 3)));
                Edge.answers(on + " on, " + off + " off", told, x -> x.odd(0), on == off || on == off + 1 ? 0 : 1);
                Edge.answers("the other book", told, x -> x.odd(1), 0);
            }
        }
        Edge.Deed thirty = Edge.boxes(30).then(x -> {
            for (int i = 0; i < 30; i++) {
                x.tally(1, i, false, 0);
            }
        });
        Edge.answers("thirty boxes", thirty, x -> x.odd(1), 30);
        Edge.answers("no rows", Edge.boxes(3), x -> x.odd(0), 0);
        Edge.answers("the first box", Edge.boxes(3).then(row(0, 0, false, 3)), x -> x.odd(0), 1);
        Edge.answers("the last box", Edge.boxes(3).then(row(0, 2, false, 3)), x -> x.odd(0), 1);
        Edge.answers("rows of two boxes are not joined", Edge.boxes(3).then(row(0, 0, false, 3))
                .then(row(0, 1, true, 3)), x -> x.odd(0), 1);
        Edge.sentence("54 odd: NONE: no such book.");
        Edge.refusedFor("odd(*)", thirty, (x, n) -> x.odd(n), -1, -1, 2, Edge.LEAST, Edge.GREATEST);
    }
}
