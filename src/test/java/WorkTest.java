/** Promises 44 to 50: jobs, both cranes at work, wind and shifts. */
public final class WorkTest {
    static BoxQuay with(int boxes) {
        BoxQuay x = new BoxQuay();
        for (int i = 0; i < boxes; i++) {
            x.box(10, 0, 0);
        }
        return x;
    }

    static void job(BoxQuay x, int job, int... due) {
        for (int i = 0; i < due.length; i++) {
            Due.due("job(" + job + ", " + i + ")", x.job(job, i), due[i]);
        }
    }

    static void crane(BoxQuay x, int crane, int... due) {
        for (int i = 0; i < due.length; i++) {
            Due.due("crane(" + crane + ", " + i + ")", x.crane(crane, i), due[i]);
        }
    }

    public static void main(String[] args) {
        wrongOnes();
        both();
        sides();
        waysThatCross();
        results();
        wind();
        shifts();
        anew();
        many();
        Due.end();
    }

    static void wrongOnes() {
        BoxQuay x = with(1);
        Due.due("no such box", x.jobLoad(1, 0, 0), -1);
        Due.due("no such box", x.jobLoad(-1, 0, 0), -1);
        Due.due("no such bay", x.jobLoad(0, 3, 0), -1);
        Due.due("no such bay", x.jobLoad(0, -1, 0), -1);
        Due.due("no such row", x.jobLoad(0, 0, 4), -1);
        Due.due("no such row", x.jobLoad(0, 0, -1), -1);
        Due.due("no such bay", x.jobUnload(3, 0, 0), -1);
        Due.due("no such row", x.jobUnload(0, 4, 0), -1);
        Due.due("no such stack", x.jobUnload(0, 0, 4), -1);
        Due.due("no such stack", x.jobUnload(0, 0, -2), -1);
        Due.due("n below", x.work(-1), -1);
        Due.due("n beyond", x.work(201), -1);
        Due.due("no ticks were", x.count(16), 0);
        Due.due("n", x.work(0), 0);
        Due.due("n", x.work(200), 0);
        Due.due("ticks", x.count(16), 200);
        Due.due("no such job", x.job(0, 0), -100);
        Due.due("no such job", x.job(-1, 0), -100);
        Due.due("no such crane", x.crane(2, 0), -1);
        Due.due("no such crane", x.crane(-1, 0), -1);
        Due.due("others", x.crane(0, 5), -1);
        Due.due("others", x.crane(0, -1), -1);
        Due.due("away", x.jobUnload(2, 3, -1), 0);
        Due.due("others", x.job(0, 5), -100);
        Due.due("others", x.job(0, -1), -100);
        Due.due("a below 0", x.wind(-1, 3), false);
        Due.due("b below a", x.wind(4, 3), false);
        Due.due("b beyond", x.wind(4, 10000), false);
        Due.due("one tick", x.wind(9999, 9999), true);
        Due.due("all", x.wind(0, 9999), true);
        Due.due("s below", x.shifts(-1, 0), false);
        Due.due("s beyond", x.shifts(501, 0), false);
        Due.due("r below", x.shifts(0, -1), false);
        Due.due("r beyond", x.shifts(0, 501), false);
        Due.due("edges", x.shifts(500, 500), true);
        Due.due("edges", x.shifts(0, 0), true);
    }

    static void both() {
        BoxQuay x = with(3);
        Due.due("job", x.jobLoad(0, 0, 0), 0);
        Due.due("job", x.jobLoad(1, 1, 1), 1);
        Due.due("job", x.jobLoad(2, 2, 2), 2);
        crane(x, 0, 0, -1, 0, 0, 0);
        crane(x, 1, 2, -1, 0, 0, 0);
        job(x, 0, 0, -100, -100, -100, -100);
        // A lifts at bay 0; B takes job 1 and moves to bay 1.
        Due.due("tick 0", x.work(1), 0);
        crane(x, 0, 0, 0, 1, 0, 0);
        crane(x, 1, 1, 1, 0, 1, 0);
        job(x, 0, 1, 0, 0, -100, -100);
        job(x, 1, 1, 1, 0, -100, -100);
        job(x, 2, 0, -100, -100, -100, -100);
        Due.due("nothing aboard yet", x.count(4), 0);
        Due.due("tick 1", x.work(1), 1);
        job(x, 0, 2, 0, 0, 1, 2);
        crane(x, 0, 0, -1, 0, 0, 1);
        crane(x, 1, 1, 1, 1, 1, 0);
        Due.due("aboard", x.at(0, 0, 2), 0);
        // Job 2 is not on A's side; B brings job 1 to its end.
        Due.due("tick 2", x.work(1), 1);
        crane(x, 0, 0, -1, 0, 0, 1);
        crane(x, 1, 1, -1, 0, 1, 1);
        Due.due("ticks 3 to 9", x.work(7), 1);
        job(x, 1, 2, 1, 0, 2, 2);
        job(x, 2, 2, 1, 3, 5, 2);
        crane(x, 1, 2, -1, 0, 2, 2);
        Due.due("jobs", x.count(14), 3);
        Due.due("done", x.count(15), 3);
        Due.due("ticks", x.count(16), 10);
    }

    static void sides() {
        BoxQuay x = with(4);
        Due.due("read", Due.read(x, "bays 5;"), 0);
        x.jobLoad(0, 4, 0);
        x.jobLoad(1, 3, 0);
        x.jobLoad(2, 3, 1);
        x.jobLoad(3, 1, 1);
        // A may not take bay 4, where B stands: it takes job 1 and goes to bay 1. B takes job 0.
        Due.due("tick 0", x.work(1), 0);
        crane(x, 0, 1, 1, 0, 1, 0);
        crane(x, 1, 4, 0, 1, 0, 0);
        Due.due("tick 1", x.work(1), 1);
        crane(x, 0, 2, 1, 0, 2, 0);
        // B has none above A's bay 3 now.
        Due.due("ticks 2 to 4", x.work(3), 1);
        job(x, 1, 2, 0, 0, 4, 2);
        crane(x, 1, 4, -1, 0, 0, 1);
        // A takes the next of bay 3, lifts in ticks 5 and 6; only then job 3, two bays back.
        Due.due("ticks 5 and 6", x.work(2), 1);
        job(x, 2, 2, 0, 5, 6, 2);
        Due.due("ticks 7 to 9", x.work(3), 0);
        crane(x, 0, 1, 3, 1, 5, 2);
        Due.due("tick 10", x.work(1), 1);
        job(x, 3, 2, 0, 7, 10, 2);
        BoxQuay y = with(2);
        y.jobLoad(0, 1, 0);
        y.jobLoad(1, 1, 1);
        // A takes job 0; job 1 is in A's bay, so B waits until A is done, and A has it first.
        Due.due("ticks", y.work(5), 2);
        job(y, 0, 2, 0, 0, 2, 2);
        job(y, 1, 2, 0, 3, 4, 2);
        crane(y, 1, 2, -1, 0, 0, 0);
    }

    static BoxQuay with(int[][] loads) {
        BoxQuay x = with(loads.length);
        Due.due("read", Due.read(x, "bays 5;"), 0);
        for (int i = 0; i < loads.length; i++) {
            Due.due("job", x.jobLoad(i, loads[i][0], loads[i][1]), i);
        }
        return x;
    }

    static void waysThatCross() {
        // B goes down to bay 1 from tick 0 on: job 2, there too, is not A's, though B stands higher yet.
        BoxQuay x = with(new int[][] {{0, 0}, {1, 0}, {1, 1}});
        Due.due("ticks 0 to 2", x.work(3), 1);
        job(x, 2, 0, -100);
        Due.due("ticks 3 to 6", x.work(4), 2);
        job(x, 1, 2, 1, 0, 4, 2);
        job(x, 2, 2, 1, 5, 6, 2);
        // A goes up to bay 2: job 1, there too, is not B's, though A stands lower yet.
        BoxQuay y = with(new int[][] {{2, 0}, {2, 1}});
        Due.due("ticks 0 to 5", y.work(6), 2);
        job(y, 0, 2, 0, 0, 3, 2);
        job(y, 1, 2, 0, 4, 5, 2);
        crane(y, 1, 4, -1, 0, 0, 0);
        // A goes down from bay 3 to bay 0: while it stands over bay 2, that one is not B's.
        BoxQuay z = with(new int[][] {{3, 0}, {0, 0}, {2, 0}, {3, 1}});
        Due.due("ticks 0 to 10", z.work(11), 4);
        job(z, 0, 2, 0, 0, 4, 2);
        job(z, 1, 2, 0, 5, 9, 2);
        job(z, 3, 2, 1, 5, 7, 2);
        job(z, 2, 2, 1, 8, 10, 2);
        // B goes up from bay 2 to bay 4: while it stands over bay 3, that one is not A's.
        BoxQuay t = with(new int[][] {{0, 0}, {2, 0}, {4, 0}, {3, 1}});
        Due.due("ticks 0 to 10", t.work(11), 4);
        job(t, 1, 2, 1, 0, 3, 2);
        job(t, 2, 2, 1, 4, 7, 2);
        job(t, 3, 2, 0, 6, 10, 2);
    }

    static void results() {
        BoxQuay x = with(6);
        Due.due("read", Due.read(x, "lift 15; list 60;"), 0);
        x.load(0, 0, 0);
        x.load(1, 0, 0);
        x.stuck(1, true);
        x.jobLoad(2, 0, 0);
        x.jobUnload(0, 0, 0);
        x.jobLoad(3, 0, 1);
        x.jobUnload(0, 2, 0);
        Due.due("four", x.work(8), 4);
        job(x, 0, 2, 0, 0, 1, -1);
        job(x, 1, 2, 0, 2, 3, -2);
        job(x, 2, 2, 0, 4, 5, -3);
        job(x, 3, 2, 0, 6, 7, -1);
        crane(x, 0, 0, -1, 0, 0, 4);
        Due.due("lift 20", Due.read(x, "lift 20;"), 0);
        x.jobUnload(0, 0, 3);
        x.jobUnload(0, 0, 3);
        Due.due("two", x.work(4), 2);
        job(x, 0, 2, 0, 0, 1, 2);
        job(x, 1, 2, 0, 2, 3, -1);
        Due.due("in the yard", x.of(1, 5), 3);
        Due.due("in the yard", x.of(1, 7), 1);
        x.jobLoad(0, 1, 1);
        x.jobLoad(1, 1, 1);
        x.jobLoad(0, 1, 1);
        Due.due("ticks", x.work(20), 3);
        job(x, 2, 2, 0, 4, 6, -1);
        job(x, 3, 2, 0, 7, 8, 2);
        job(x, 4, 2, 0, 9, 10, 3);
        BoxQuay y = with(2);
        y.load(0, 0, 0);
        y.jobUnload(0, 0, -1);
        y.jobLoad(0, 2, 0);
        // Both end in tick 1, A first: what A unloads can be loaded by B then.
        Due.due("both", y.work(2), 2);
        job(y, 0, 2, 0, 0, 1, 1);
        job(y, 1, 2, 1, 0, 1, 2);
    }

    static void wind() {
        BoxQuay x = with(2);
        x.jobLoad(0, 0, 0);
        x.jobLoad(1, 1, 0);
        Due.due("wind", x.wind(0, 3), true);
        Due.due("no lifting, but moving", x.work(4), 0);
        crane(x, 0, 0, 0, 0, 0, 0);
        crane(x, 1, 1, 1, 0, 1, 0);
        Due.due("half", x.work(1), 0);
        crane(x, 0, 0, 0, 1, 0, 0);
        Due.due("another span", x.wind(5, 6), true);
        Due.due("what is lifted half waits", x.work(2), 0);
        crane(x, 0, 0, 0, 1, 0, 0);
        Due.due("then", x.work(1), 2);
        job(x, 0, 2, 0, 0, 7, 2);
        job(x, 1, 2, 1, 0, 7, 2);
        BoxQuay y = with(1);
        y.jobLoad(0, 0, 0);
        y.wind(0, 50);
        y.wind(100, 200);
        Due.due("one span at a time", y.work(2), 1);
    }

    static void shifts() {
        BoxQuay x = with(2);
        x.jobLoad(0, 0, 0);
        x.jobLoad(1, 0, 0);
        Due.due("shifts", x.shifts(3, 2), true);
        // Ticks 0, 1 and 2 are worked, 3 and 4 not, 5 is.
        Due.due("ticks", x.work(3), 1);
        crane(x, 0, 0, 1, 1, 0, 1);
        Due.due("rest", x.work(2), 0);
        crane(x, 0, 0, 1, 1, 0, 1);
        Due.due("on", x.work(1), 1);
        job(x, 1, 2, 0, 2, 5, 3);
        Due.due("ticks count", x.count(16), 6);
        BoxQuay y = with(1);
        y.jobLoad(0, 1, 0);
        y.work(1);
        y.shifts(1, 500);
        Due.due("no moving either", y.work(200), 0);
        crane(y, 0, 1, 0, 0, 1, 0);
        y.shifts(0, 500);
        Due.due("none", y.work(2), 1);
        job(y, 0, 2, 0, 0, 202, 2);
        BoxQuay z = with(1);
        z.jobLoad(0, 0, 0);
        z.shifts(5, 0);
        Due.due("no rest", z.work(2), 1);
        BoxQuay t = with(1);
        t.jobLoad(0, 0, 0);
        t.work(0);
        t.shifts(1, 1);
        Due.due("taken in 0, on in 2", t.work(3), 1);
        job(t, 0, 2, 0, 0, 2, 2);
    }

    static void anew() {
        BoxQuay x = with(2);
        x.jobLoad(0, 1, 0);
        x.jobLoad(1, 2, 0);
        x.wind(0, 100);
        x.shifts(100, 100);
        x.work(7);
        Due.due("a fault", Due.read(x, "bays"), 1);
        Due.due("jobs", x.count(14), 2);
        Due.due("ticks", x.count(16), 7);
        Due.due("read", Due.read(x, "bays 4;"), 0);
        Due.due("jobs", x.count(14), 0);
        Due.due("done", x.count(15), 0);
        Due.due("ticks", x.count(16), 0);
        crane(x, 0, 0, -1, 0, 0, 0);
        crane(x, 1, 3, -1, 0, 0, 0);
        Due.due("no such job", x.job(0, 0), -100);
        Due.due("job", x.jobLoad(0, 0, 0), 0);
        Due.due("no wind", x.work(2), 1);
        x.jobLoad(1, 0, 0);
        x.work(120);
        Due.due("no shifts", x.job(1, 3), 3);
    }

    static void many() {
        BoxQuay x = with(1);
        for (int i = 0; i < 40; i++) {
            Due.due("job", i % 2 == 0 ? x.jobLoad(0, 0, 0) : x.jobUnload(0, 0, -1), i);
        }
        Due.due("a 41st", x.jobLoad(0, 0, 0), -1);
        Due.due("a 41st", x.jobUnload(0, 0, -1), -1);
        Due.due("all", x.work(80), 40);
        job(x, 39, 2, 0, 78, 79, 1);
        job(x, 38, 2, 0, 76, 77, 2);
        Due.due("still no room", x.jobLoad(0, 0, 0), -1);
    }
}
