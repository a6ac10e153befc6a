import java.util.ArrayList;
import java.util.List;

/**
 * What the tests of edges need: each sentence of the document that names an edge is told, and below it stand the last
 * calls on either side of that edge, each on an object of its own. Of a call that is refused it is held too that
 * nothing has changed.
 */
final class Edge {
    static final int LEAST = Integer.MIN_VALUE;
    static final int GREATEST = Integer.MAX_VALUE;

    interface Deed {
        void on(BoxQuay x);

        default Deed then(Deed next) {
            return x -> {
                on(x);
                next.on(x);
            };
        }
    }

    interface Call {
        int on(BoxQuay x);
    }

    interface Question {
        boolean on(BoxQuay x);
    }

    private static String sentence = "";
    private static int sentences;
    private static int calls;

    private Edge() {
    }

    /** Names the sentence of the document (its promise, or the part of its terms) that the next checks hold. */
    static void sentence(String words) {
        sentence = words;
        sentences++;
    }

    static final Deed NEW = x -> { };

    // ---- how objects are brought to an edge

    static Deed text(String text) {
        return x -> must("read() of " + text, Due.read(x, text), 0);
    }

    static Deed tape(String text) {
        return x -> Due.feed(x, text);
    }

    /** So many boxes of weight 10, for port 0, of sort 0. */
    static Deed boxes(int n) {
        return x -> {
            for (int i = 0; i < n; i++) {
                x.box(10, 0, 0);
            }
        };
    }

    static Deed box(int weight, int port, int sort) {
        return x -> must("box", x.box(weight, port, sort) >= 0 ? 1 : 0, 1);
    }

    static Deed load(int box, int bay, int row) {
        return x -> must("load(" + box + ", " + bay + ", " + row + ")", x.load(box, bay, row) >= 0 ? 1 : 0, 1);
    }

    static Deed store(int box, int stack) {
        return x -> must("store(" + box + ", " + stack + ")", x.store(box, stack) >= 0 ? 1 : 0, 1);
    }

    static Deed uncover(int bay) {
        return x -> must("cover(" + bay + ", false)", x.cover(bay, false) ? 1 : 0, 1);
    }

    static Deed recover(int bay) {
        return x -> must("cover(" + bay + ", true)", x.cover(bay, true) ? 1 : 0, 1);
    }

    static Deed stuck(int box) {
        return x -> must("stuck(" + box + ")", x.stuck(box, true) ? 1 : 0, 1);
    }

    static Deed times(int n, Deed deed) {
        return x -> {
            for (int i = 0; i < n; i++) {
                deed.on(x);
            }
        };
    }

    /** A quay with something of everything, so that whatever changes is seen: twelve boxes, of which 9 to 11 are away. */
    static final Deed BUSY = text("bays 4; list 200; lift 60; plug 1 2; pair near if bay == obay;"
            + "place cold if sort == 2 and plugged == 0;")
            .then(x -> {
                for (int i = 0; i < 12; i++) {
                    must("box", x.box(10 + i, i % 5, i % 6), i);
                }
            })
            .then(uncover(1)).then(load(2, 1, 1)).then(load(3, 1, 2)).then(recover(1)).then(load(4, 1, 0))
            .then(load(0, 0, 0)).then(load(1, 0, 0)).then(stuck(1)).then(load(5, 3, 3)).then(uncover(2))
            .then(store(6, 0)).then(store(7, 0)).then(store(8, 1))
            .then(x -> {
                must("lorry", x.lorry(6), 1);
                must("lorry", x.lorry(8), 2);
                must("sight", x.sight(0, 2), 0);
                must("sight", x.sight(0, 3), 1);
                must("customs", x.customs(7, true), 2);
                must("reading", x.reading(-59), 3);
                must("annul", x.annul(1), 4);
                must("jobLoad", x.jobLoad(9, 2, 1), 0);
                must("jobUnload", x.jobUnload(0, 0, 2), 1);
                must("jobLoad", x.jobLoad(10, 3, 1), 2);
                must("wind", x.wind(5, 6) ? 1 : 0, 1);
                must("shifts", x.shifts(8, 2) ? 1 : 0, 1);
                must("work", x.work(1), 0);
                must("tally", x.tally(0, 0, true, 5), 0);
                must("tally", x.tally(1, 0, true, 6), 0);
                must("tally", x.tally(0, 1, false, 9), 1);
            })
            .then(tape("list 7; "));

    private static void must(String call, int got, int want) {
        Due.due("[" + sentence + "] on the way there: " + call, got, want);
    }

    // ---- what is held

    /** A call that is taken, or that only asks: its answer. */
    static void answers(String call, Deed before, Call asked, int due) {
        BoxQuay x = new BoxQuay();
        before.on(x);
        calls++;
        Due.due("[" + sentence + "] " + call, asked.on(x), due);
    }

    static void is(String call, Deed before, Question asked, boolean due) {
        answers(call, before, x -> asked.on(x) ? 1 : 0, due ? 1 : 0);
    }

    /** A call that is refused: its answer, and that nothing has changed. */
    static void refused(String call, Deed before, Call asked, int due) {
        answers(call, before, asked, due);
        alike(call, before, before.then(x -> asked.on(x)));
        BoxQuay x = new BoxQuay();
        before.on(x);
        int place = x.place();
        asked.on(x);
        Due.due("[" + sentence + "] place() behind " + call, x.place(), place);
    }

    static void isRefused(String call, Deed before, Question asked) {
        refused(call, before, x -> asked.on(x) ? 1 : 0, 0);
    }

    /** Calls that only ask, once with each of these: the same answer, and nothing changed. */
    static void refusedFor(String call, Deed before, CallWith asked, int due, int... with) {
        for (int n : with) {
            refused(call.replace("*", Integer.toString(n)), before, x -> asked.on(x, n), due);
        }
    }

    interface CallWith {
        int on(BoxQuay x, int n);
    }

    /** Two ways lead to objects that no call can tell apart (place() is not asked: the latest read decides it). */
    static void alike(String what, Deed one, Deed other) {
        for (int group = 0; group < GROUPS.length; group++) {
            List<Integer> due = told(one, GROUPS[group]);
            List<Integer> got = told(other, GROUPS[group]);
            calls++;
            for (int i = 0; i < Math.max(due.size(), got.size()); i++) {
                if (i >= due.size() || i >= got.size() || !due.get(i).equals(got.get(i))) {
                    Due.due("[" + sentence + "] changed by " + what + ": look " + i + " of " + NAMES[group],
                            i < got.size() ? got.get(i) : LEAST, i < due.size() ? due.get(i) : LEAST);
                    break;
                }
            }
        }
    }

    static void differ(String what, Deed one, Deed other) {
        boolean same = true;
        for (Look look : GROUPS) {
            same &= told(one, look).equals(told(other, look));
        }
        Due.due("[" + sentence + "] changed by " + what, !same, true);
    }

    static void end() {
        System.out.println(sentences + " sentences, " + calls + " checks");
        Due.end();
    }

    // ---- all that can be seen of an object, in groups that stay below 512 calls

    interface Look {
        void at(BoxQuay x, List<Integer> seen);
    }

    static final String[] NAMES = {"counts", "boxes", "places", "facts", "jobs", "books", "tape", "work", "lorries",
        "numbers"};
    static final Look[] GROUPS = {Edge::counts, Edge::everyBox, Edge::everyPlace, Edge::everyFact, Edge::everyJob,
        Edge::everyRow, Edge::readOn, Edge::workOn, Edge::lorries, Edge::nextNumbers};

    private static List<Integer> told(Deed before, Look look) {
        BoxQuay x = new BoxQuay();
        before.on(x);
        List<Integer> seen = new ArrayList<>();
        look.at(x, seen);
        return seen;
    }

    private static void counts(BoxQuay x, List<Integer> seen) {
        for (int what = 0; what <= 18; what++) {
            seen.add(x.count(what));
        }
        for (int what = 0; what <= 4; what++) {
            seen.add(x.ship(what));
            seen.add(x.covers(what));
            seen.add(x.overstows(what));
            seen.add(x.crane(0, what));
            seen.add(x.crane(1, what));
        }
        seen.add(x.digs());
        seen.add(x.least());
        seen.add(x.blocked());
        for (int i = 0; i < 6; i++) {
            seen.add(x.dig(i));
            seen.add(x.leastDig(i));
        }
        for (int g = 1; g <= 4; g++) {
            seen.add(x.lash(g));
            seen.add(x.gang(g, 1));
        }
    }

    private static void everyBox(BoxQuay x, List<Integer> seen) {
        for (int box = 0; box < x.count(3); box++) {
            for (int what = 0; what <= 7; what++) {
                seen.add(x.of(box, what));
            }
        }
    }

    private static void everyPlace(BoxQuay x, List<Integer> seen) {
        for (int place = 0; place < 80; place++) {
            seen.add(x.at(place / 16, place / 4 % 4, place % 4));
        }
        for (int rule = 0; rule < 8; rule++) {
            seen.add(x.pairs(rule));
            seen.add(x.pair(rule, 0));
            seen.add(x.places(rule));
        }
        for (int box = 0; box < x.count(3); box++) {
            seen.add(x.above(box));
        }
    }

    private static void everyFact(BoxQuay x, List<Integer> seen) {
        int facts = x.count(7);
        for (int n = 0; n <= facts; n++) {
            seen.add(x.agrees(n));
            seen.add(x.suspects(n));
        }
        for (int box = 0; box < x.count(3); box++) {
            seen.add(x.last(box, facts));
            seen.add(x.path(box, facts, 0));
            seen.add(x.path(box, facts, 1));
            seen.add(x.stopped(box, facts));
            seen.add(x.weighs(box, facts));
        }
    }

    private static void everyJob(BoxQuay x, List<Integer> seen) {
        for (int job = 0; job < x.count(14); job++) {
            for (int what = 0; what <= 4; what++) {
                seen.add(x.job(job, what));
            }
        }
    }

    private static void everyRow(BoxQuay x, List<Integer> seen) {
        for (int d : new int[] {0, 1, 9, 9999}) {
            for (int row = 0; row < x.count(17); row++) {
                seen.add(x.mate(row, d));
            }
            seen.add(x.alone(0, d));
            seen.add(x.alone(1, d));
        }
        seen.add(x.odd(0));
        seen.add(x.odd(1));
    }

    /** What is on the tape shows when it is read. */
    private static void readOn(BoxQuay x, List<Integer> seen) {
        seen.add(x.read());
        seen.add(x.place());
        for (int what = 0; what <= 18; what++) {
            seen.add(x.count(what));
        }
    }

    /** Wind, shifts and jobs show when the cranes work on. */
    private static void workOn(BoxQuay x, List<Integer> seen) {
        for (int i = 0; i < 40; i++) {
            seen.add(x.work(1));
        }
        seen.add(x.work(200));
        for (int job = 0; job < x.count(14); job++) {
            for (int what = 0; what <= 4; what++) {
                seen.add(x.job(job, what));
            }
        }
        seen.add(x.count(4));
        seen.add(x.ship(0));
    }

    private static void lorries(BoxQuay x, List<Integer> seen) {
        for (int box = 0; box < x.count(3); box++) {
            seen.add(x.lorry(box));
        }
        seen.add(x.clear());
    }

    private static void nextNumbers(BoxQuay x, List<Integer> seen) {
        seen.add(x.sight(0, 1));
        seen.add(x.last(0, x.count(7)));
        seen.add(x.box(1, 0, 0));
        seen.add(x.tally(0, 0, true, 3));
        seen.add(x.tally(1, 0, true, 3));
        seen.add(x.jobUnload(0, 0, -1));
        for (int stack = 0; stack < 4; stack++) {
            seen.add(x.fetch(stack));
        }
        for (int place = 0; place < 20; place++) {
            seen.add(x.unload(place / 4, place % 4, -1));
        }
    }
}
