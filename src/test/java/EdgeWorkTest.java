/** The edges that part V of the terms and promises 44 to 50 name: jobs, cranes, wind and shifts. */
public final class EdgeWorkTest {
    public static void main(String[] args) {
        jobLoad();
        jobUnload();
        work();
        job();
        jobResults();
        crane();
        sides();
        notPassing();
        wind();
        windSpan();
        shifts();
        shiftRests();
        Edge.end();
    }

    static Edge.Deed jobs(int n) {
        return Edge.boxes(2).then(Edge.times(n, x -> x.jobLoad(0, 1, 1)));
    }

    static Edge.Deed work(int n) {
        return x -> x.work(n);
    }

    static void jobLoad() {
        Edge.sentence("44 jobLoad: A JOB: LOADING of a BOX: its number.");
        Edge.answers("the first", jobs(0), x -> x.jobLoad(0, 0, 0), 0);
        Edge.answers("the 40th", jobs(39), x -> x.jobLoad(0, 0, 0), 39);
        Edge.answers("of one aboard", Edge.BUSY, x -> x.jobLoad(0, 0, 0), 3);
        Edge.answers("of one below another in the yard", Edge.BUSY, x -> x.jobLoad(6, 0, 0), 3);
        Edge.answers("the last box, bay, row", Edge.BUSY, x -> x.jobLoad(11, 3, 3), 3);
        Edge.sentence("44 jobLoad: NONE, and nothing happens: 40 are there");
        Edge.refused("the 41st", jobs(40), x -> x.jobLoad(0, 0, 0), -1);
        Edge.refused("the 41st, though all are done", jobs(40).then(work(200)), x -> x.jobLoad(0, 0, 0), -1);
        Edge.sentence("44 jobLoad: NONE, and nothing happens: no such BOX, BAY, ROW");
        Edge.refusedFor("jobLoad(*, 0, 0)", Edge.BUSY, (x, n) -> x.jobLoad(n, 0, 0), -1, -1, 12, 30, Edge.LEAST,
                Edge.GREATEST);
        Edge.refusedFor("jobLoad(11, *, 0)", Edge.BUSY, (x, n) -> x.jobLoad(11, n, 0), -1, -1, 4, 5, Edge.LEAST,
                Edge.GREATEST);
        Edge.refusedFor("jobLoad(11, 0, *)", Edge.BUSY, (x, n) -> x.jobLoad(11, 0, n), -1, -1, 4, Edge.LEAST,
                Edge.GREATEST);
    }

    static void jobUnload() {
        Edge.sentence("45 jobUnload: A JOB: UNLOADING to a STACK (NONE: AWAY): its number.");
        Edge.answers("the first", Edge.NEW, x -> x.jobUnload(0, 0, 0), 0);
        Edge.answers("the 40th", jobs(39), x -> x.jobUnload(0, 0, 0), 39);
        Edge.answers("away", Edge.BUSY, x -> x.jobUnload(0, 0, -1), 3);
        Edge.answers("the last stack", Edge.BUSY, x -> x.jobUnload(0, 0, 3), 3);
        Edge.answers("where none stands", Edge.BUSY, x -> x.jobUnload(3, 1, 0), 3);
        Edge.sentence("45 jobUnload: NONE, and nothing happens: 40 are there");
        Edge.refused("the 41st", jobs(40), x -> x.jobUnload(0, 0, 0), -1);
        Edge.sentence("45 jobUnload: NONE, and nothing happens: no such ones");
        Edge.refusedFor("jobUnload(*, 0, 0)", Edge.BUSY, (x, n) -> x.jobUnload(n, 0, 0), -1, -1, 4, 5, Edge.LEAST,
                Edge.GREATEST);
        Edge.refusedFor("jobUnload(0, *, 0)", Edge.BUSY, (x, n) -> x.jobUnload(0, n, 0), -1, -1, 4, Edge.LEAST,
                Edge.GREATEST);
        Edge.refusedFor("jobUnload(0, 0, *)", Edge.BUSY, (x, n) -> x.jobUnload(0, 0, n), -1, -2, 4, Edge.LEAST,
                Edge.GREATEST);
    }

    static void work() {
        Edge.sentence("46 work: n TICKS (0 .. 200) of WORK: how many JOBS came to their RESULT in them");
        Edge.refused("no ticks", Edge.BUSY, x -> x.work(0), 0);
        Edge.answers("200 ticks", jobs(40), x -> x.work(200), 40);
        Edge.answers("199 ticks", jobs(40), x -> x.work(199), 40);
        Edge.answers("they were", Edge.NEW.then(work(200)), x -> x.count(16), 200);
        // Crane A moves in tick 0, lifts in 1 and 2, and then two ticks a job.
        Edge.answers("two ticks", jobs(40), x -> x.work(2), 0);
        Edge.answers("three ticks", jobs(40), x -> x.work(3), 1);
        Edge.answers("four ticks", jobs(40), x -> x.work(4), 1);
        Edge.answers("five ticks", jobs(40), x -> x.work(5), 2);
        Edge.answers("80 ticks", jobs(40), x -> x.work(80), 39);
        Edge.answers("81 ticks", jobs(40), x -> x.work(81), 40);
        Edge.answers("in them, not ahead of them", jobs(40).then(work(80)), x -> x.work(200), 1);
        Edge.answers("no jobs", Edge.NEW, x -> x.work(200), 0);
        Edge.alike("work(3) as three of one", Edge.BUSY.then(work(3)), Edge.BUSY.then(Edge.times(3, work(1))));
        Edge.sentence("46 work: NONE: no such n.");
        Edge.refusedFor("work(*)", Edge.BUSY, (x, n) -> x.work(n), -1, -1, 201, Edge.LEAST, Edge.GREATEST);
    }

    static void job() {
        Edge.Deed three = Edge.boxes(2).then(x -> x.jobLoad(0, 1, 0)).then(x -> x.jobLoad(1, 1, 0));
        Edge.sentence("47 job: what 0: 0 not taken, 1 taken, 2 done, .. -100: .. not yet");
        int[][] ahead = {{0, -100, -100, -100, -100}, {0, -100, -100, -100, -100}};
        int[][] taken = {{1, 0, 0, -100, -100}, {0, -100, -100, -100, -100}};
        int[][] done = {{2, 0, 0, 2, 2}, {0, -100, -100, -100, -100}};
        int[][] next = {{2, 0, 0, 2, 2}, {1, 0, 3, -100, -100}};
        int[][] both = {{2, 0, 0, 2, 2}, {2, 0, 3, 4, 3}};
        int[][][] due = {ahead, taken, taken, done, next, both};
        for (int ticks = 0; ticks < due.length; ticks++) {
            for (int job = 0; job < 2; job++) {
                for (int what = 0; what < 5; what++) {
                    int j = job;
                    int w = what;
                    Edge.refused("job(" + j + ", " + w + ") behind " + ticks + " ticks", three.then(work(ticks)),
                            x -> x.job(j, w), due[ticks][job][what]);
                }
            }
        }
        Edge.answers("taken by B", Edge.boxes(1).then(x -> x.jobLoad(0, 2, 0)).then(work(1)), x -> x.job(0, 1), 1);
        Edge.sentence("47 job: -100: no such ones");
        Edge.Deed worked = three.then(work(9));
        Edge.refusedFor("job(*, 0)", worked, (x, n) -> x.job(n, 0), -100, -1, 2, 39, 40, Edge.LEAST, Edge.GREATEST);
        Edge.refusedFor("job(0, *)", worked, (x, n) -> x.job(0, n), -100, -1, 5, Edge.LEAST, Edge.GREATEST);
        Edge.refused("no job at all", Edge.NEW, x -> x.job(0, 0), -100);
        Edge.answers("the 40th", jobs(40).then(work(200)), x -> x.job(39, 0), 2);
        Edge.refused("no 41st", jobs(40).then(work(200)), x -> x.job(40, 0), -100);
    }

    static void jobResults() {
        Edge.sentence("V: its RESULT is what that tells (TIER, how many, NONE, -2, -3)");
        Edge.Deed two = Edge.boxes(4).then(Edge.load(0, 0, 0)).then(Edge.load(1, 0, 0));
        Edge.Call result = x -> x.job(0, 4);
        Edge.answers("a tier", Edge.boxes(1).then(x -> x.jobLoad(0, 0, 0)).then(work(2)), result, 2);
        Edge.answers("the tier on another", Edge.boxes(2).then(Edge.load(1, 0, 0)).then(x -> x.jobLoad(0, 0, 0))
                .then(work(2)), result, 3);
        Edge.answers("a tier of a hold", Edge.boxes(1).then(Edge.uncover(0)).then(x -> x.jobLoad(0, 0, 0))
                .then(work(2)), result, 0);
        Edge.answers("one", two.then(x -> x.jobUnload(0, 0, -1)).then(work(2)), result, 1);
        Edge.answers("two", two.then(Edge.stuck(1)).then(x -> x.jobUnload(0, 0, -1)).then(work(2)), result, 2);
        Edge.answers("no room", two.then(x -> x.jobLoad(2, 0, 0)).then(work(2)), result, -1);
        Edge.answers("it can't be had", two.then(x -> x.jobLoad(0, 0, 1)).then(work(2)), result, -1);
        Edge.answers("none stands there", two.then(x -> x.jobUnload(0, 1, -1)).then(work(2)), result, -1);
        Edge.answers("LIFT", two.then(Edge.text("lift 9;")).then(x -> x.jobLoad(2, 0, 1)).then(work(2)), result, -2);
        Edge.answers("LIFT", two.then(Edge.text("lift 9;")).then(x -> x.jobUnload(0, 0, -1)).then(work(2)), result, -2);
        Edge.answers("not BORNE", two.then(Edge.text("list 60;")).then(x -> x.jobLoad(2, 0, 1)).then(work(2)), result,
                -3);
        Edge.Deed stacked = two.then(x -> x.jobUnload(0, 0, 2)).then(work(2));
        Edge.answers("to its stack", stacked, x -> x.of(1, 5), 2);
        Edge.answers("in the yard", stacked, x -> x.of(1, 4), 2);
        Edge.answers("away", two.then(x -> x.jobUnload(0, 0, -1)).then(work(2)), x -> x.of(1, 4), 0);
        Edge.answers("to the first stack", two.then(x -> x.jobUnload(0, 0, 0)).then(work(2)), x -> x.of(1, 5), 0);
        Edge.answers("to the last stack", two.then(x -> x.jobUnload(0, 0, 3)).then(work(2)), x -> x.of(1, 5), 3);
        Edge.answers("it is done, whatever its result", two.then(x -> x.jobLoad(2, 0, 0)).then(work(2)),
                x -> x.count(15), 1);
        Edge.alike("a job that is tried in vain: the ship and the yard as if there were none",
                two.then(x -> x.work(2)).then(Edge.text("")),
                two.then(x -> x.jobLoad(2, 0, 0)).then(work(2)).then(Edge.text("")));
        Edge.alike("a job that is done: as if it had been called", two.then(Edge.load(2, 0, 1)).then(Edge.text("")),
                two.then(x -> x.jobLoad(2, 0, 1)).then(work(2)).then(Edge.text("")));
        Edge.answers("it is tried behind two ticks, as all is then", Edge.boxes(1).then(x -> x.jobLoad(0, 0, 0))
                .then(work(1)).then(Edge.uncover(0)).then(work(1)), result, 0);
        Edge.answers("not ahead of the second", Edge.boxes(1).then(x -> x.jobLoad(0, 0, 0)).then(work(1)),
                x -> x.count(4), 0);
    }

    static void crane() {
        Edge.Deed two = Edge.boxes(2).then(x -> x.jobLoad(0, 1, 0)).then(x -> x.jobLoad(1, 2, 0));
        Edge.sentence("48 crane: what 0 its BAY, 1 its JOB (NONE: none), 2 TICKS that it lifts at it already, 3 .. moves, 4 .. JOBS it did");
        int[][][] due = {
            {{0, -1, 0, 0, 0}, {2, -1, 0, 0, 0}},
            {{1, 0, 0, 1, 0}, {2, 1, 1, 0, 0}},
            {{1, 0, 1, 1, 0}, {2, -1, 0, 0, 1}},
            {{1, -1, 0, 1, 1}, {2, -1, 0, 0, 1}}};
        for (int ticks = 0; ticks < due.length; ticks++) {
            for (int crane = 0; crane < 2; crane++) {
                for (int what = 0; what < 5; what++) {
                    int c = crane;
                    int w = what;
                    Edge.refused("crane(" + c + ", " + w + ") behind " + ticks + " ticks", two.then(work(ticks)),
                            x -> x.crane(c, w), due[ticks][crane][what]);
                }
            }
        }
        Edge.sentence("48 crane: NONE for others.");
        Edge.refusedFor("crane(*, 0)", two, (x, n) -> x.crane(n, 0), -1, -1, 2, Edge.LEAST, Edge.GREATEST);
        Edge.refusedFor("crane(0, *)", two, (x, n) -> x.crane(0, n), -1, -1, 5, Edge.LEAST, Edge.GREATEST);
        Edge.refusedFor("crane(1, *)", two, (x, n) -> x.crane(1, n), -1, -1, 5, Edge.LEAST, Edge.GREATEST);
    }

    /** Five bays, and jobs in these. */
    static Edge.Deed bays(int... bays) {
        return Edge.text("bays 5;").then(x -> {
            for (int bay : bays) {
                x.jobUnload(bay, 0, -1);
            }
        });
    }

    static void sides() {
        Edge.sentence("V: the first one that is not taken yet with its BAY on its side: for A below where B stands");
        Edge.answers("bay 3 is A's", bays(3).then(work(1)), x -> x.job(0, 1), 0);
        Edge.answers("bay 4, where B stands, is B's", bays(4).then(work(1)), x -> x.job(0, 1), 1);
        Edge.answers("bay 0, where A stands, is A's", bays(0).then(work(1)), x -> x.job(0, 1), 0);
        Edge.answers("the first of two", bays(2, 1).then(work(1)), x -> x.crane(0, 1), 0);
        Edge.sentence("V: .. for B above likewise by A");
        Edge.answers("bay 1 is B's when A has another, in bay 0", bays(0, 1).then(work(1)), x -> x.job(1, 1), 1);
        Edge.answers("bay 0, where A stands, is not B's", bays(0, 0).then(work(1)), x -> x.job(1, 0), 0);
        Edge.answers("above the bay of A's job", bays(2, 3).then(work(1)), x -> x.job(1, 1), 1);
        Edge.answers("the bay of A's job", bays(2, 2).then(work(1)), x -> x.job(1, 0), 0);
        Edge.answers("below the bay of A's job", bays(2, 1).then(work(1)), x -> x.job(1, 0), 0);
        Edge.sentence("V: .. and, if B has a JOB, below that one's BAY");
        // B goes down from bay 4 to bay 1, for A has bay 0; when A is free B stands over bay 2.
        Edge.Deed down = bays(0, 1, 1, 0);
        Edge.answers("the bay of B's job", down.then(work(3)), x -> x.job(2, 0), 0);
        Edge.answers("below it", down.then(work(3)), x -> x.job(3, 1), 0);
        Edge.answers("in tick 2", down.then(work(3)), x -> x.job(3, 2), 2);
        // B has been over bay 2 and goes up to bay 4: in tick 4 it comes over bay 3, in tick 5 over bay 4.
        Edge.Deed up = bays(0, 2, 4, 3);
        Edge.answers("B over bay 3", up.then(work(5)), x -> x.crane(1, 0), 3);
        Edge.answers("where B stands, its job being above it", up.then(work(6)), x -> x.job(3, 0), 0);
        Edge.answers("when B has left it", up.then(work(7)), x -> x.job(3, 2), 6);
        Edge.answers("it is A's", up.then(work(7)), x -> x.job(3, 1), 0);
        Edge.sentence("V: it may begin in that TICK");
        Edge.answers("moves in it", bays(2).then(work(1)), x -> x.crane(0, 0), 1);
        Edge.answers("lifts in it", bays(0).then(work(1)), x -> x.crane(0, 2), 1);
    }

    static void notPassing() {
        Edge.sentence("V: one that has a JOB and stands elsewhere moves one BAY towards it");
        // A has been over bay 3 and is called to bay 0: in ticks 5, 6, 7 it comes over bays 2, 1, 0.
        Edge.Deed down = bays(3).then(work(5)).then(x -> x.jobUnload(0, 0, -1)).then(x -> x.jobUnload(1, 0, -1));
        int[] over = {3, 2, 1, 0, 0};
        for (int ticks = 0; ticks < over.length; ticks++) {
            Edge.answers("A behind " + ticks + " ticks", down.then(work(ticks)), x -> x.crane(0, 0), over[ticks]);
        }
        Edge.answers("bay 1 is not B's until A has left it", down.then(work(2)), x -> x.job(2, 0), 0);
        Edge.answers("then it is", down.then(work(3)), x -> x.job(2, 2), 7);
        Edge.sentence("V: moves .., if the other one does not stand there");
        // Two bays: A is called to bay 0, B to bay 1; they never leave them.
        Edge.Deed two = Edge.text("bays 2;").then(x -> x.jobUnload(0, 0, -1)).then(x -> x.jobUnload(1, 0, -1))
                .then(x -> x.jobUnload(0, 1, -1)).then(x -> x.jobUnload(1, 1, -1));
        Edge.answers("A has not moved", two.then(work(9)), x -> x.crane(0, 3), 0);
        Edge.answers("B has not moved", two.then(work(9)), x -> x.crane(1, 3), 0);
        Edge.answers("two each", two.then(work(4)), x -> x.crane(1, 4), 2);
        // A lifts over bay 2 while B, whose job is in bay 3, comes as far as that.
        Edge.Deed near = bays(2, 3).then(work(2));
        Edge.answers("A over bay 2", near, x -> x.crane(0, 0), 2);
        Edge.answers("B over bay 3", near, x -> x.crane(1, 0), 3);
        Edge.sentence("V: they can't be over one BAY, nor pass one another");
        for (int seed = 0; seed < 40; seed++) {
            int[] some = new int[12];
            for (int i = 0; i < some.length; i++) {
                some[i] = (seed * 7 + i * i * (seed % 5 + 1) + i * 3) % 5;
            }
            BoxQuay x = new BoxQuay();
            bays(some).on(x);
            for (int tick = 0; tick < 80; tick++) {
                x.work(1);
                int a = x.crane(0, 0);
                int b = x.crane(1, 0);
                if (a >= b) {
                    Due.due("[V: nor pass one another] A over " + a + ", B over " + b, 1, 0);
                }
            }
        }
    }

    static final Edge.Deed ONE = Edge.boxes(1).then(x -> x.jobLoad(0, 0, 0));

    static void wind() {
        Edge.sentence("49 wind: WIND blows in TICKS a .. b: true");
        Edge.is("one tick", ONE, x -> x.wind(0, 0), true);
        Edge.is("the last tick", ONE, x -> x.wind(9999, 9999), true);
        Edge.is("all ticks", ONE, x -> x.wind(0, 9999), true);
        Edge.sentence("49 wind: false: a below 0");
        Edge.isRefused("wind(-1, 3)", ONE, x -> x.wind(-1, 3));
        Edge.isRefused("wind(least, 3)", ONE, x -> x.wind(Edge.LEAST, 3));
        Edge.isRefused("wind(-1, 9999) in place of another", ONE.then(x -> x.wind(1, 2)), x -> x.wind(-1, 9999));
        Edge.sentence("49 wind: false: .. b below a");
        Edge.isRefused("wind(3, 2)", ONE, x -> x.wind(3, 2));
        Edge.isRefused("wind(0, -1)", ONE.then(x -> x.wind(1, 2)), x -> x.wind(0, -1));
        Edge.isRefused("wind(0, least)", ONE.then(x -> x.wind(1, 2)), x -> x.wind(0, Edge.LEAST));
        Edge.isRefused("wind(greatest, 0)", ONE.then(x -> x.wind(1, 2)), x -> x.wind(Edge.GREATEST, 0));
        Edge.sentence("49 wind: false: .. b above 9999");
        Edge.isRefused("wind(0, 10000)", ONE, x -> x.wind(0, 10000));
        Edge.isRefused("wind(10000, 10000)", ONE, x -> x.wind(10000, 10000));
        Edge.isRefused("wind(0, greatest)", ONE.then(x -> x.wind(1, 2)), x -> x.wind(0, Edge.GREATEST));
    }

    /** The tick in which a job that crane A can lift at once came to its result. */
    static void ended(String what, Edge.Deed before, int due) {
        Edge.answers(what, ONE.then(before).then(work(60)), x -> x.job(0, 3), due);
    }

    static void windSpan() {
        Edge.sentence("V: WIND blows in TICKS a .. b .. no lifting then (what is lifted half waits)");
        ended("no wind", Edge.NEW, 1);
        ended("in tick 0", x -> x.wind(0, 0), 2);
        ended("in tick 1", x -> x.wind(1, 1), 2);
        ended("in ticks 0 and 1", x -> x.wind(0, 1), 3);
        ended("in tick 2", x -> x.wind(2, 2), 1);
        ended("in ticks 1 to 9", x -> x.wind(1, 9), 10);
        Edge.answers("half lifted", ONE.then(x -> x.wind(1, 9)).then(work(9)), x -> x.crane(0, 2), 1);
        Edge.sentence("V: (one span at a time); 49 wind: (in place of another span)");
        ended("the first one is no more", x -> {
            x.wind(0, 50);
            x.wind(1, 1);
        }, 2);
        Edge.sentence("V: no lifting then: moving and taking go on");
        Edge.Deed far = Edge.boxes(1).then(x -> x.jobLoad(0, 1, 0)).then(x -> x.wind(0, 9));
        Edge.answers("it is taken", far.then(work(1)), x -> x.job(0, 2), 0);
        Edge.answers("it moves", far.then(work(1)), x -> x.crane(0, 0), 1);
        Edge.answers("it lifts then", far.then(work(60)), x -> x.job(0, 3), 11);
    }

    static void shifts() {
        Edge.sentence("50 shifts: SHIFTS of s TICKS (0 .. 500), rests of r (0 .. 500): true");
        for (int s : new int[] {0, 1, 499, 500}) {
            for (int r : new int[] {0, 1, 499, 500}) {
                Edge.is("shifts(" + s + ", " + r + ")", ONE, x -> x.shifts(s, r), true);
            }
        }
        Edge.sentence("50 shifts: false: no such ones.");
        Edge.Deed told = ONE.then(x -> x.shifts(1, 3));
        for (int n : new int[] {-1, 501, Edge.LEAST, Edge.GREATEST}) {
            Edge.isRefused("shifts(" + n + ", 0)", told, x -> x.shifts(n, 0));
            Edge.isRefused("shifts(0, " + n + ")", told, x -> x.shifts(0, n));
            Edge.isRefused("shifts(" + n + ", " + n + ")", told, x -> x.shifts(n, n));
            Edge.isRefused("shifts(" + n + ", 5) of none", ONE, x -> x.shifts(n, 5));
        }
    }

    static void shiftRests() {
        Edge.sentence("V: in TICK t nothing is done if S is above 0 and the rest of t by S + R is S or more");
        ended("S 1, R 1: ticks 0 and 2", x -> x.shifts(1, 1), 2);
        ended("S 2, R 1: ticks 0 and 1", x -> x.shifts(2, 1), 1);
        ended("S 1, R 10: ticks 0 and 11", x -> x.shifts(1, 10), 11);
        ended("S 1, R 0: no rests", x -> x.shifts(1, 0), 1);
        ended("S 500, R 500", x -> x.shifts(500, 500), 1);
        ended("S 0 (none)", x -> x.shifts(0, 500), 1);
        ended("S 0, R 0", x -> x.shifts(0, 0), 1);
        // Ticks are counted from the first one, not from when the shifts were told: 2 and 3 rest, 4 is worked.
        ended("told behind tick 0", x -> {
            x.wind(0, 0);
            x.work(1);
            x.shifts(2, 2);
        }, 4);
        Edge.answers("rests count as ticks", ONE.then(x -> x.shifts(1, 500)).then(work(200)), x -> x.count(16), 200);
        Edge.answers("the longest rest: tick 500", Edge.boxes(1).then(x -> x.shifts(1, 499)).then(work(1))
                .then(x -> x.jobLoad(0, 0, 0)).then(work(200)).then(work(200)).then(work(99)), x -> x.crane(0, 2), 0);
        Edge.answers("it is over", Edge.boxes(1).then(x -> x.shifts(1, 499)).then(work(1))
                .then(x -> x.jobLoad(0, 0, 0)).then(work(200)).then(work(200)).then(work(100)), x -> x.crane(0, 2), 1);
        Edge.answers("no job is taken in a rest", ONE.then(x -> x.shifts(1, 1))
                .then(x -> x.jobLoad(0, 0, 0)).then(work(4)), x -> x.job(1, 0), 0);
        Edge.answers("but behind it", ONE.then(x -> x.shifts(1, 1)).then(x -> x.jobLoad(0, 0, 0)).then(work(5)),
                x -> x.job(1, 2), 4);
        Edge.answers("nor moved", Edge.boxes(1).then(x -> x.jobLoad(0, 1, 0)).then(x -> x.shifts(1, 1)).then(work(2)),
                x -> x.crane(0, 3), 1);
    }
}
