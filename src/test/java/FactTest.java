/** Promises 34 to 43: sights, customs, readings, voids, and what is known by them. */
public final class FactTest {
    public static void main(String[] args) {
        wrongOnes();
        sixty();
        sights();
        customs();
        readings();
        weights();
        suspects();
        Due.end();
    }

    static BoxQuay with(int... weights) {
        BoxQuay x = new BoxQuay();
        for (int w : weights) {
            x.box(w, 0, 0);
        }
        return x;
    }

    static void wrongOnes() {
        BoxQuay x = with(10);
        Due.due("no such box", x.sight(1, 0), -1);
        Due.due("no such box", x.sight(-1, 0), -1);
        Due.due("no such holder", x.sight(0, 6), -1);
        Due.due("no such holder", x.sight(0, -1), -1);
        Due.due("no such box", x.customs(1, true), -1);
        Due.due("no such box", x.customs(-1, false), -1);
        Due.due("beyond", x.reading(100000), -1);
        Due.due("below", x.reading(-100000), -1);
        Due.due("no such fact", x.annul(0), -1);
        Due.due("no such fact", x.annul(-1), -1);
        Due.due("facts", x.count(7), 0);
        Due.due("edge", x.reading(99999), 0);
        Due.due("edge", x.reading(-99999), 1);
        Due.due("void", x.annul(1), 2);
        Due.due("a void", x.annul(2), -1);
        Due.due("no such fact", x.annul(3), -1);
        Due.due("the same once more", x.annul(1), 3);
        int[][] asks = {{0, 5}, {0, -1}, {1, 0}, {-1, 0}};
        for (int[] a : asks) {
            Due.due("last", x.last(a[0], a[1]), -1);
            Due.due("path", x.path(a[0], a[1], 0), -1);
            Due.due("stopped", x.stopped(a[0], a[1]), -1);
            Due.due("weighs", x.weighs(a[0], a[1]), -1);
        }
        Due.due("agrees", x.agrees(5), -1);
        Due.due("agrees", x.agrees(-1), -1);
        Due.due("suspects", x.suspects(5), -1);
        Due.due("suspects", x.suspects(-1), -1);
    }

    static void sixty() {
        BoxQuay x = with(10);
        for (int i = 0; i < 60; i++) {
            Due.due("sight", x.sight(0, i % 6), i);
        }
        Due.due("a 61st", x.sight(0, 0), -1);
        Due.due("a 61st", x.customs(0, true), -1);
        Due.due("a 61st", x.reading(0), -1);
        Due.due("a 61st", x.annul(0), -1);
        Due.due("last", x.last(0, 60), 5);
        Due.due("path", x.path(0, 60, 59), 5);
        Due.due("path", x.path(0, 60, 60), -1);
        BoxQuay y = with(10);
        for (int i = 0; i < 30; i++) {
            y.sight(0, i % 2);
        }
        for (int i = 0; i < 30; i++) {
            Due.due("void", y.annul(i), 30 + i);
        }
        Due.due("all are void", y.last(0, 60), -2);
        Due.due("all but the last", y.last(0, 59), 1);
        Due.due("path", y.path(0, 59, 0), 1);
        Due.due("path", y.path(0, 59, 1), -1);
    }

    static void sights() {
        BoxQuay x = with(10, 10);
        x.sight(0, 3);
        x.sight(1, 4);
        x.sight(0, 3);
        x.sight(0, 0);
        x.sight(0, 3);
        Due.due("by none", x.last(0, 0), -2);
        Due.due("by one", x.last(0, 1), 3);
        Due.due("the other", x.last(1, 1), -2);
        Due.due("the other", x.last(1, 2), 4);
        Due.due("by four", x.last(0, 4), 0);
        Due.due("by all", x.last(0, 5), 3);
        Due.due("path", x.path(0, 5, 0), 3);
        Due.due("path", x.path(0, 5, 1), 0);
        Due.due("path", x.path(0, 5, 2), 3);
        Due.due("path", x.path(0, 5, 3), -1);
        Due.due("path", x.path(0, 5, -1), -1);
        Due.due("path", x.path(0, 0, 0), -1);
        x.annul(3);
        Due.due("without the one between they are one", x.path(0, 6, 0), 3);
        Due.due("no more", x.path(0, 6, 1), -1);
        Due.due("ahead of the void", x.path(0, 5, 1), 0);
        x.annul(4);
        Due.due("last", x.last(0, 7), 3);
        x.annul(0);
        x.annul(2);
        Due.due("none is left", x.last(0, 9), -2);
        Due.due("one is left", x.last(0, 8), 3);
    }

    static void customs() {
        BoxQuay x = with(10, 10);
        x.customs(0, true);
        x.customs(1, false);
        x.customs(0, false);
        x.customs(0, true);
        Due.due("by none", x.stopped(0, 0), 0);
        Due.due("by one", x.stopped(0, 1), 1);
        Due.due("by three", x.stopped(0, 3), 0);
        Due.due("by four", x.stopped(0, 4), 1);
        Due.due("the other", x.stopped(1, 4), 0);
        x.annul(3);
        Due.due("the free counts again", x.stopped(0, 5), 0);
        x.annul(2);
        Due.due("the first stop counts again", x.stopped(0, 6), 1);
        x.annul(0);
        Due.due("none is left", x.stopped(0, 7), 0);
        Due.due("before", x.stopped(0, 6), 1);
        Due.due("customs are no sights", x.last(0, 4), -2);
        Due.due("customs are no readings", x.agrees(4), 1);
        x.sight(0, 2);
        x.reading(0);
        Due.due("sights and readings are no customs", x.stopped(0, 9), 0);
    }

    static void readings() {
        BoxQuay x = with(10, 20);
        Due.due("none", x.agrees(0), 1);
        Due.due("of an empty ship", x.reading(0), 0);
        x.load(0, 0, 0);
        Due.due("so", x.reading(-30), 1);
        Due.due("agrees", x.agrees(2), 1);
        x.load(1, 1, 2);
        Due.due("not so", x.reading(-30), 2);
        Due.due("agrees", x.agrees(2), 1);
        Due.due("agrees", x.agrees(3), 0);
        x.unload(0, 0, -1);
        x.load(0, 2, 3);
        Due.due("what stood then is kept", x.agrees(2), 1);
        x.box(40, 0, 0);
        x.load(2, 1, 1);
        Due.due("a later box is not in it", x.agrees(2), 1);
        x.annul(2);
        Due.due("without the wrong one", x.agrees(4), 1);
        Due.due("with it", x.agrees(3), 0);
        // 10 * 3 + 20 * 1 - 40 * 1
        Due.due("reading", x.reading(10), 4);
        Due.due("agrees", x.agrees(5), 1);
    }

    static void weights() {
        BoxQuay x = with(10, 20, 40);
        x.load(0, 0, 0);
        x.load(1, 0, 3);
        Due.due("as told", x.weighs(0, 0), 10);
        Due.due("told list is 30", x.reading(0), 0);
        Due.due("the left one is heavier", x.weighs(0, 1), 20);
        Due.due("or the right one lighter", x.weighs(1, 1), 10);
        Due.due("not the one ashore", x.weighs(2, 1), -2);
        Due.due("as told", x.weighs(2, 0), 40);
        Due.due("a second one", x.reading(1), 1);
        Due.due("none does both", x.weighs(0, 2), -2);
        x.annul(0);
        x.annul(1);
        Due.due("60 at most", x.reading(30 - 3 * 50), 4);
        Due.due("60", x.weighs(0, 5), 60);
        Due.due("none so light", x.weighs(1, 5), -2);
        x.annul(4);
        Due.due("61 would do", x.reading(30 - 3 * 51), 6);
        Due.due("none", x.weighs(0, 7), -2);
        x.annul(6);
        Due.due("1 at least", x.reading(30 - 3 * 19), 8);
        Due.due("1", x.weighs(1, 9), 1);
        x.annul(8);
        Due.due("0 would do", x.reading(30 - 3 * 20), 10);
        Due.due("none", x.weighs(1, 11), -2);
        Due.due("the other", x.weighs(0, 11), 30);
        x.annul(10);
        Due.due("no third of it", x.reading(31), 12);
        Due.due("none", x.weighs(0, 13), -2);
        BoxQuay y = with(10);
        y.load(0, 0, 1);
        y.reading(-10);
        Due.due("as told", y.weighs(0, 1), 10);
        y.unload(0, 1, -1);
        y.reading(5);
        Due.due("it is not in the wrong one", y.weighs(0, 2), -2);
    }

    static void suspects() {
        BoxQuay x = with(10, 20, 40);
        x.load(0, 0, 0);
        x.load(1, 0, 3);
        Due.due("without readings any may be", x.suspects(0), 7);
        x.reading(30);
        Due.due("the one ashore may be", x.suspects(1), 4);
        x.reading(0);
        Due.due("none does both", x.suspects(2), 0);
        x.annul(0);
        Due.due("either aboard", x.suspects(3), 3);
        x.reading(-30);
        Due.due("two that differ", x.suspects(4), 0);
        x.annul(1);
        Due.due("one heavier by 20; none lighter by 20", x.suspects(5), 1);
        BoxQuay y = new BoxQuay();
        for (int i = 0; i < 30; i++) {
            y.box(1, 0, 0);
        }
        Due.due("thirty bits", y.suspects(0), (1 << 30) - 1);
        Due.due("none made", new BoxQuay().suspects(0), 0);
    }
}
