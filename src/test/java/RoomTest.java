import java.lang.management.ManagementFactory;
import java.util.Random;

/** A run's room: what an object makes at first is little, and its calls make nothing more. */
public final class RoomTest {
    static long made() {
        com.sun.management.ThreadMXBean bean = (com.sun.management.ThreadMXBean) ManagementFactory.getThreadMXBean();
        return bean.getThreadAllocatedBytes(Thread.currentThread().getId());
    }

    static int call(BoxQuay x, int k, int a, int b, int c) {
        switch (k) {
            case 0: return x.box(1 + a % 40, b % 5, c % 6);
            case 1: return x.load(a, b % 5, c % 4);
            case 2: return x.unload(a % 5, b % 4, c % 5 - 1);
            case 3: return x.store(a, b % 4);
            case 4: return x.lorry(a);
            case 5: return x.digs() + x.dig(0) + x.least() + x.leastDig(0) + x.blocked();
            case 6: return x.sight(a, b % 6) + x.reading(c) + x.suspects(0) + x.weighs(a, 1) + x.path(a, 1, 0);
            case 7: return x.jobLoad(a, b % 5, c % 4) + x.jobUnload(a % 5, b % 4, -1) + x.work(c);
            case 8: return x.tally(a % 2, b, c > 9, c) + x.mate(0, 5) + x.alone(0, 9) + x.odd(1);
            case 9: return x.lash(1 + a % 4) + x.gang(1 + b % 4, 0) + x.best(a) + x.bestTwo(b, c);
            case 10: return x.pairs(a % 3) + x.pair(0, b) + x.places(c % 3) + x.breaks(a, b % 5, c % 4);
            case 11: return x.overstows(a % 5) + x.overstow(b % 5, 0) + x.covers(c % 5) + x.above(a);
            case 12: return x.ticks(a * b, c % 5) + x.split(a * b) + x.ship(a % 5) + x.would(a, b % 5, c % 4, 2);
            case 13: return x.cover(a % 5, b % 2 == 0) ? 1 : 0;
            default: return x.count(a) + x.of(b, c % 8) + x.at(a % 5, b % 4, c % 4) + x.fetch(a % 4);
        }
    }

    public static void main(String[] args) {
        String text = "bays 5; pair a if bay == obay and row*9999*9999*9999*9999*9999 < weight;"
                + "pair b if sort == osort; place c if weight*weight*port < 9;";
        BoxQuay warm = new BoxQuay();
        Due.read(warm, text);
        made();
        long before = made();
        BoxQuay x = new BoxQuay();
        long object = made() - before;
        System.out.println("a new object takes " + object + " bytes");
        Due.due("a new object takes at most 24,000 bytes", object <= 24000, true);
        Due.read(x, text);
        Random r = new Random(7);
        int[] random = new int[1500 * 4];
        for (int i = 0; i < random.length; i++) {
            random[i] = i % 4 == 0 ? r.nextInt(15) : r.nextInt(31);
        }
        before = made();
        int sum = 0;
        for (int i = 0; i < random.length; i += 4) {
            sum += call(x, random[i], random[i + 1], random[i + 2], random[i + 3]);
        }
        long calls = made() - before;
        System.out.println("the calls took " + calls + " bytes (" + sum + ")");
        Due.due("calls take at most 2,000 bytes", calls <= 2000, true);
        Due.end();
    }
}
