import java.nio.charset.StandardCharsets;
import java.util.ArrayList;
import java.util.List;
import java.util.Random;

/** Runs of calls at random, each answer held against the Oracle's. */
public final class OracleTest {
    static final int[] ODD = {-1, -2, 1000, Integer.MIN_VALUE, Integer.MAX_VALUE, 30, 31, 40, 60, 61};

    final Random r;
    final TextMaker texts;
    final BoxQuay x = new BoxQuay();
    final Oracle o = new Oracle();
    final List<String> trail = new ArrayList<>();
    int bad;

    OracleTest(long seed) {
        r = new Random(seed);
        texts = new TextMaker(r);
    }

    void due(String call, int got, int want) {
        trail.add(call + " -> " + want);
        if (got != want && bad++ == 0) {
            System.out.println("answered " + got + ", due is " + want + ":");
            for (String s : trail) {
                System.out.println("  " + s);
            }
        }
    }

    void due(String call, boolean got, boolean want) {
        due(call, got ? 1 : 0, want ? 1 : 0);
    }

    /** A number from low on below beyond, now and then a wrong one. */
    int in(int low, int beyond) {
        if (r.nextInt(25) == 0) {
            return r.nextBoolean() ? ODD[r.nextInt(ODD.length)] : r.nextBoolean() ? low - 1 : beyond;
        }
        return low + r.nextInt(Math.max(1, beyond - low));
    }

    int aBox() {
        return in(0, o.boxes.size());
    }

    int aBoxThatIs(int where) {
        for (int i = 0; i < 6; i++) {
            int b = aBox();
            if (o.has(b) && o.boxes.get(b).where == where) {
                return b;
            }
        }
        return aBox();
    }

    int aBay() {
        return in(0, o.told.bays);
    }

    int known() {
        return r.nextInt(3) == 0 ? o.facts.size() : in(0, o.facts.size() + 1);
    }

    void readText(String s) {
        byte[] bytes = s.getBytes(StandardCharsets.ISO_8859_1);
        int n = (bytes.length + 19) / 20;
        for (int i = 0; i < n; i++) {
            int[] w = new int[5];
            for (int k = 0; k < 20; k++) {
                int at = 20 * i + k;
                int b = at < bytes.length ? bytes[at] & 255 : 'q';
                w[k / 4] |= b << 24 - 8 * (k % 4);
            }
            due("feed(" + w[0] + "..)", x.feed(w[0], w[1], w[2], w[3], w[4]), o.feed(w[0], w[1], w[2], w[3], w[4]));
        }
        int over = 20 * n - bytes.length;
        due("back(" + over + ")", x.back(over), o.back(over));
        due("read() of " + s.replace("\n", "\\n"), x.read(), o.read());
        due("place()", x.place(), o.place());
    }

    void tapeCall() {
        if (r.nextInt(3) == 0) {
            int n = in(0, 30);
            due("back(" + n + ")", x.back(n), o.back(n));
        } else {
            int w = r.nextInt();
            due("feed", x.feed(w, w >> 3, 0x20202020, w * 7, -1), o.feed(w, w >> 3, 0x20202020, w * 7, -1));
        }
        if (r.nextInt(6) == 0) {
            due("read()", x.read(), o.read());
        }
        due("place()", x.place(), o.place());
    }

    void boxCall() {
        int w = in(1, 41);
        int p = in(0, 5);
        int s = in(0, 6);
        due("box(" + w + "," + p + "," + s + ")", x.box(w, p, s), o.box(w, p, s));
    }

    void liftCall() {
        int b = aBoxThatIs(r.nextInt(4) == 0 ? 2 : 0);
        int bay = aBay();
        int row = in(0, 4);
        int st = in(-1, 4);
        switch (r.nextInt(9)) {
            case 0:
                due("unload(" + bay + "," + row + "," + st + ")", x.unload(bay, row, st), o.unload(bay, row, st));
                break;
            case 1:
                boolean on = r.nextBoolean();
                due("cover(" + bay + "," + on + ")", x.cover(bay, on), o.cover(bay, on));
                break;
            case 2:
                boolean is = r.nextBoolean();
                b = aBox();
                due("stuck(" + b + "," + is + ")", x.stuck(b, is), o.stuck(b, is));
                break;
            case 3:
                due("store(" + b + "," + st + ")", x.store(b, st), o.store(b, st));
                break;
            case 4:
                if (r.nextInt(3) == 0) {
                    due("fetch(" + st + ")", x.fetch(st), o.fetch(st));
                }
                break;
            default:
                due("load(" + b + "," + bay + "," + row + ")", x.load(b, bay, row), o.load(b, bay, row));
                break;
        }
    }

    void lookCall() {
        int b = aBox();
        int bay = aBay();
        int row = in(0, 4);
        switch (r.nextInt(5)) {
            case 0:
                int what = in(0, 8);
                due("of(" + b + "," + what + ")", x.of(b, what), o.of(b, what));
                break;
            case 1:
                int tier = in(0, 4);
                due("at(" + bay + "," + row + "," + tier + ")", x.at(bay, row, tier), o.at(bay, row, tier));
                break;
            case 2:
                what = in(0, 5);
                due("ship(" + what + ")", x.ship(what), o.ship(what));
                break;
            case 3:
                what = in(0, 3);
                due("would(" + b + "," + bay + "," + row + "," + what + ")", x.would(b, bay, row, what),
                        o.would(b, bay, row, what));
                break;
            default:
                what = in(0, 19);
                due("count(" + what + ")", x.count(what), o.count(what));
                break;
        }
    }

    void ruleCall() {
        int rule = in(0, Math.max(1, r.nextBoolean() ? o.told.pairs.size() : o.told.places.size()));
        int b = aBox();
        int bay = aBay();
        int row = in(0, 4);
        int port = in(-1, 5);
        int i = in(0, 6);
        switch (r.nextInt(8)) {
            case 0: due("pairs(" + rule + ")", x.pairs(rule), o.pairs(rule)); break;
            case 1: due("pair(" + rule + "," + i + ")", x.pair(rule, i), o.pair(rule, i)); break;
            case 2: due("places(" + rule + ")", x.places(rule), o.places(rule)); break;
            case 3:
                due("breaks(" + b + "," + bay + "," + row + ")", x.breaks(b, bay, row), o.breaks(b, bay, row));
                break;
            case 4: due("above(" + b + ")", x.above(b), o.above(b)); break;
            case 5: due("overstows(" + port + ")", x.overstows(port), o.overstows(port)); break;
            case 6: due("overstow(" + port + "," + i + ")", x.overstow(port, i), o.overstow(port, i)); break;
            default: due("covers(" + port + ")", x.covers(port), o.covers(port)); break;
        }
    }

    void craneCall() {
        int lifts = 0;
        for (int k = 0; k < o.told.bays + (r.nextInt(10) == 0 ? 1 : 0) && k < 6; k++) {
            lifts = lifts * 21 + (r.nextBoolean() ? r.nextInt(21) : 0);
        }
        lifts = r.nextInt(30) == 0 ? r.nextInt() : lifts;
        int s = in(0, o.told.bays + 1);
        due("ticks(" + lifts + "," + s + ")", x.ticks(lifts, s), o.ticks(lifts, s));
        due("split(" + lifts + ")", x.split(lifts), o.split(lifts));
    }

    void lorryCall() {
        int b = aBoxThatIs(2);
        int i = in(0, 5);
        switch (r.nextInt(9)) {
            case 0: due("digs()", x.digs(), o.digs()); break;
            case 1: due("dig(" + i + ")", x.dig(i), o.dig(i)); break;
            case 2: due("least()", x.least(), o.least()); break;
            case 3: due("leastDig(" + i + ")", x.leastDig(i), o.leastDig(i)); break;
            case 4: due("blocked()", x.blocked(), o.blocked()); break;
            case 5:
                if (r.nextInt(5) == 0) {
                    due("clear()", x.clear(), o.clear());
                }
                break;
            default: due("lorry(" + b + ")", x.lorry(b), o.lorry(b)); break;
        }
    }

    void factCall() {
        int b = aBox();
        int n = known();
        int i = in(0, 5);
        switch (r.nextInt(12)) {
            case 0:
            case 1:
                int h = in(0, 6);
                due("sight(" + b + "," + h + ")", x.sight(b, h), o.sight(b, h));
                break;
            case 2:
                boolean is = r.nextBoolean();
                due("customs(" + b + "," + is + ")", x.customs(b, is), o.customs(b, is));
                break;
            case 3:
                int list = o.list() + (r.nextInt(3) == 0 ? (r.nextInt(21) - 10) * (2 * r.nextInt(4) - 3) : 0);
                list = r.nextInt(30) == 0 ? in(-99999, 100000) : list;
                due("reading(" + list + ")", x.reading(list), o.reading(list));
                break;
            case 4:
                int f = in(0, Math.max(1, o.facts.size()));
                due("annul(" + f + ")", x.annul(f), o.annul(f));
                break;
            case 5: due("last(" + b + "," + n + ")", x.last(b, n), o.last(b, n)); break;
            case 6: due("path(" + b + "," + n + "," + i + ")", x.path(b, n, i), o.path(b, n, i)); break;
            case 7: due("stopped(" + b + "," + n + ")", x.stopped(b, n), o.stopped(b, n)); break;
            case 8: due("agrees(" + n + ")", x.agrees(n), o.agrees(n)); break;
            case 9: due("suspects(" + n + ")", x.suspects(n), o.suspects(n)); break;
            default: due("weighs(" + b + "," + n + ")", x.weighs(b, n), o.weighs(b, n)); break;
        }
    }

    void workCall() {
        int b = aBox();
        int bay = aBay();
        int row = in(0, 4);
        int st = in(-1, 4);
        int what = in(0, 5);
        switch (r.nextInt(10)) {
            case 0:
                due("jobUnload(" + bay + "," + row + "," + st + ")", x.jobUnload(bay, row, st),
                        o.jobUnload(bay, row, st));
                break;
            case 1:
            case 2:
                due("jobLoad(" + b + "," + bay + "," + row + ")", x.jobLoad(b, bay, row), o.jobLoad(b, bay, row));
                break;
            case 3:
            case 4:
                int n = r.nextInt(30) == 0 ? in(0, 201) : in(0, 8);
                due("work(" + n + ")", x.work(n), o.work(n));
                break;
            case 5:
            case 6:
                int j = in(0, Math.max(1, o.jobs.size()));
                due("job(" + j + "," + what + ")", x.job(j, what), o.job(j, what));
                break;
            case 7:
                int c = in(0, 2);
                due("crane(" + c + "," + what + ")", x.crane(c, what), o.crane(c, what));
                break;
            case 8:
                int a = r.nextInt(30) == 0 ? in(0, 10000) : o.tick + r.nextInt(12) - 4;
                int e = a + in(0, 10);
                due("wind(" + a + "," + e + ")", x.wind(a, e), o.wind(a, e));
                break;
            default:
                int s = r.nextInt(4) == 0 ? in(0, 501) : in(0, 9);
                int rest = r.nextInt(8) == 0 ? in(0, 501) : in(0, 6);
                due("shifts(" + s + "," + rest + ")", x.shifts(s, rest), o.shifts(s, rest));
                break;
        }
    }

    void tallyCall() {
        int b = r.nextInt(4) == 0 ? aBox() : in(0, 3);
        int book = in(0, 2);
        int d = r.nextInt(4) == 0 ? in(0, 10000) : in(0, 20);
        switch (r.nextInt(6)) {
            case 0: due("alone(" + book + "," + d + ")", x.alone(book, d), o.alone(book, d)); break;
            case 1: due("odd(" + book + ")", x.odd(book), o.odd(book)); break;
            case 2:
                int row = in(0, Math.max(1, o.books.get(0).size()));
                due("mate(" + row + "," + d + ")", x.mate(row, d), o.mate(row, d));
                break;
            default:
                int t = r.nextInt(20) == 0 ? in(0, 10000) : in(0, 40);
                boolean on = r.nextInt(3) > 0;
                due("tally(" + book + "," + b + "," + on + "," + t + ")", x.tally(book, b, on, t),
                        o.tally(book, b, on, t));
                break;
        }
    }

    void stowCall() {
        int g = in(1, 5);
        int bay = aBay();
        int a = aBoxThatIs(0);
        int b = aBoxThatIs(0);
        switch (r.nextInt(4)) {
            case 0: due("lash(" + g + ")", x.lash(g), o.lash(g)); break;
            case 1: due("gang(" + g + "," + bay + ")", x.gang(g, bay), o.gang(g, bay)); break;
            case 2: due("best(" + a + ")", x.best(a), o.best(a)); break;
            default: due("bestTwo(" + a + "," + b + ")", x.bestTwo(a, b), o.bestTwo(a, b)); break;
        }
    }

    void call(int kind) {
        switch (kind) {
            case 0: readText(texts.text()); break;
            case 1: tapeCall(); break;
            case 2: boxCall(); break;
            case 3: liftCall(); break;
            case 4: lookCall(); break;
            case 5: ruleCall(); break;
            case 6: craneCall(); break;
            case 7: lorryCall(); break;
            case 8: factCall(); break;
            case 9: workCall(); break;
            case 10: tallyCall(); break;
            default: stowCall(); break;
        }
    }

    // How often each kind of call comes, run by run.
    static final int[][] MIXES = {
        {1, 1, 8, 20, 10, 10, 2, 4, 8, 8, 4, 4},
        {40, 6, 1, 1, 2, 1, 0, 0, 0, 1, 0, 0},
        {2, 0, 10, 40, 10, 25, 1, 0, 0, 0, 0, 6},
        {0, 0, 10, 20, 2, 0, 0, 60, 2, 0, 0, 0},
        {0, 0, 6, 20, 2, 0, 0, 0, 60, 0, 0, 0},
        {1, 0, 10, 6, 4, 0, 0, 0, 0, 80, 0, 2},
        {0, 0, 2, 0, 1, 0, 20, 0, 0, 0, 60, 0},
        {4, 0, 8, 40, 3, 4, 0, 0, 0, 0, 0, 16},
    };

    /** Without this the holds would stay nearly empty: their covers lie at first. */
    void fillHolds() {
        for (int bay = 0; bay < o.told.bays; bay++) {
            if (r.nextBoolean()) {
                due("cover(" + bay + ",false)", x.cover(bay, false), o.cover(bay, false));
                for (int i = 0; i < 5; i++) {
                    int b = aBoxThatIs(0);
                    int row = r.nextInt(4);
                    due("load(" + b + "," + bay + "," + row + ")", x.load(b, bay, row), o.load(b, bay, row));
                }
                if (r.nextInt(4) > 0) {
                    due("cover(" + bay + ",true)", x.cover(bay, true), o.cover(bay, true));
                }
            }
        }
    }

    /** Without this no yard would be so full that there is no room to dig. */
    void fillYard() {
        int full = 11 + r.nextInt(6);
        for (int i = 0; i < 60 && o.count(5) < full; i++) {
            if (o.boxes.size() < full) {
                boxCall();
            }
            int b = aBoxThatIs(0);
            int st = r.nextInt(4);
            due("store(" + b + "," + st + ")", x.store(b, st), o.store(b, st));
        }
        int waiting = 3 + r.nextInt(8);
        for (int i = 0; i < 20 && o.lorries.size() < waiting; i++) {
            int b = aBoxThatIs(2);
            due("lorry(" + b + ")", x.lorry(b), o.lorry(b));
        }
    }

    void run(int[] mix) {
        int all = 0;
        for (int m : mix) {
            all += m;
        }
        if (mix[0] > 0) {
            readText(texts.plain());
        }
        int boxes = r.nextInt(31);
        for (int i = 0; i < boxes; i++) {
            boxCall();
        }
        if (mix[3] >= 20) {
            fillHolds();
        }
        if (mix[7] >= 40) {
            fillYard();
        }
        while (trail.size() < 512 && bad == 0) {
            int k = r.nextInt(all);
            int kind = 0;
            while (k >= mix[kind]) {
                k -= mix[kind];
                kind++;
            }
            call(kind);
        }
    }

    public static void main(String[] args) {
        int runs = args.length > 0 ? Integer.parseInt(args[0]) : 400;
        long first = args.length > 1 ? Long.parseLong(args[1]) : 1;
        int wrong = 0;
        long calls = 0;
        for (int i = 0; i < runs && wrong < 3; i++) {
            OracleTest t = new OracleTest(first + i);
            t.run(MIXES[i % MIXES.length]);
            calls += t.trail.size();
            if (t.bad > 0) {
                System.out.println("(the run of seed " + (first + i) + ")");
                wrong++;
            }
        }
        System.out.println(calls + " calls at random, " + wrong + " runs with a wrong answer");
        if (wrong != 0) {
            System.exit(1);
        }
    }
}
