import java.lang.reflect.InvocationTargetException;
import java.lang.reflect.Method;
import java.util.ArrayList;
import java.util.Arrays;
import java.util.Comparator;
import java.util.List;

/**
 * Every call with all combinations of a list of numbers, in five states, held against the Oracle; none may throw. The
 * list has the document's limits and their neighbours for calls of one or two numbers, fewer for those of more.
 */
public final class GridTest {
    static final int[] MANY = {Integer.MIN_VALUE, Integer.MIN_VALUE + 1, -100000, -99999, -10000, -501, -22, -21, -3, -2,
        -1, 0, 1, 2, 3, 4, 5, 6, 7, 8, 9, 10, 11, 12, 13, 15, 16, 18, 19, 20, 21, 22, 29, 30, 31, 32, 39, 40, 41, 59, 60,
        61, 63, 64, 199, 200, 201, 440, 441, 499, 500, 501, 9260, 9261, 9998, 9999, 10000, 99998, 99999, 100000, 194480,
        194481, 4084100, 4084101, Integer.MAX_VALUE - 1, Integer.MAX_VALUE};
    static final int[] SOME = {Integer.MIN_VALUE, -2, -1, 0, 1, 2, 3, 4, 5, 6, 11, 12, 29, 30, 40, 41, 9999, 10000,
        Integer.MAX_VALUE};
    static final int[] FEW = {Integer.MIN_VALUE, -1, 0, 1, 2, 3, 4, 5, 11, 12, 9999, 10000, Integer.MAX_VALUE};

    static int wrong;
    static long calls;

    private BoxQuay x;
    private Oracle o;
    private int made;

    public static void main(String[] args) throws ReflectiveOperationException {
        Method[] all = BoxQuay.class.getDeclaredMethods();
        Arrays.sort(all, Comparator.comparing(Method::getName));
        for (int state = 0; state < 5; state++) {
            for (Method m : all) {
                if (java.lang.reflect.Modifier.isPublic(m.getModifiers())) {
                    new GridTest().sweep(m, state);
                }
            }
        }
        System.out.println(calls + " calls, " + wrong + " wrong");
        Due.end();
        if (wrong > 0) {
            System.exit(1);
        }
    }

    void sweep(Method m, int state) throws ReflectiveOperationException {
        Method twin = Oracle.class.getDeclaredMethod(m.getName(), m.getParameterTypes());
        int ints = 0;
        for (Class<?> c : m.getParameterTypes()) {
            ints += c == int.class ? 1 : 0;
        }
        int[] values = ints <= 2 ? MANY : ints == 3 ? SOME : FEW;
        if (m.getName().equals("feed")) {
            values = new int[] {Integer.MIN_VALUE, -1, 0, Integer.MAX_VALUE};
        }
        List<Object[]> grid = new ArrayList<>();
        spread(m.getParameterTypes(), new Object[m.getParameterCount()], 0, values, grid);
        made = Integer.MAX_VALUE;
        for (Object[] row : grid) {
            // An object lives for 512 calls; and what a call has changed shall not stay for long.
            if (made > 120) {
                begin(state);
                made = 0;
            }
            made++;
            hold(m, twin, row, state);
        }
    }

    static void spread(Class<?>[] types, Object[] row, int at, int[] values, List<Object[]> grid) {
        if (at == row.length) {
            grid.add(row.clone());
            return;
        }
        if (types[at] == boolean.class) {
            row[at] = true;
            spread(types, row, at + 1, values, grid);
            row[at] = false;
            spread(types, row, at + 1, values, grid);
            return;
        }
        for (int value : values) {
            row[at] = value;
            spread(types, row, at + 1, values, grid);
        }
    }

    void hold(Method m, Method twin, Object[] row, int state) throws ReflectiveOperationException {
        calls++;
        Object due = twin.invoke(o, row);
        Object got;
        try {
            got = m.invoke(x, row);
        } catch (InvocationTargetException e) {
            got = e.getCause();
        }
        if (!due.equals(got)) {
            wrong++;
            if (wrong < 20) {
                System.out.println("state " + state + ": " + m.getName() + Arrays.toString(row) + " answered " + got
                        + ", due is " + due);
            }
        }
    }

    // ---- the states

    void begin(int state) {
        x = new BoxQuay();
        o = new Oracle();
        switch (state) {
            case 0: break;
            case 1: text("bays 2; lift 30; list 90;"); boxes(12); some(); break;
            case 2: text("bays 5; plug 0 1; pair a if bay == obay; place b if row < 2;"); boxes(30); some(); full(); break;
            case 3: text("bays 4; trim 40; bend 60; place c if plugged == 0;"); boxes(29); full(); break;
            default: boxes(30); decks(); break;
        }
    }

    void text(String text) {
        Due.feed(x, text);
        o.tape = text;
        Due.due("read", x.read(), o.read());
    }

    void boxes(int n) {
        for (int i = 0; i < n; i++) {
            Due.due("box", x.box(1 + 7 * i % 40, i % 5, i % 6), o.box(1 + 7 * i % 40, i % 5, i % 6));
        }
    }

    void load(int box, int bay, int row) {
        Due.due("load", x.load(box, bay, row), o.load(box, bay, row));
    }

    /** A little of everything. */
    void some() {
        Due.due("cover", x.cover(0, false), o.cover(0, false));
        load(0, 0, 1);
        load(1, 0, 1);
        load(2, 0, 2);
        Due.due("cover", x.cover(0, true), o.cover(0, true));
        load(3, 0, 0);
        load(4, 1, 3);
        load(5, 1, 3);
        Due.due("stuck", x.stuck(5, true), o.stuck(5, true));
        for (int i = 6; i < 9; i++) {
            Due.due("store", x.store(i, i % 2), o.store(i, i % 2));
            Due.due("lorry", x.lorry(i), o.lorry(i));
        }
        for (int i = 0; i < 6; i++) {
            Due.due("sight", x.sight(i % 3, i), o.sight(i % 3, i));
            Due.due("customs", x.customs(i + 4, i % 3 > 0), o.customs(i + 4, i % 3 > 0));
        }
        Due.due("reading", x.reading(3), o.reading(3));
        Due.due("annul", x.annul(2), o.annul(2));
        for (int i = 0; i < 5; i++) {
            Due.due("jobLoad", x.jobLoad(9 + i % 3, i % 2, i % 4), o.jobLoad(9 + i % 3, i % 2, i % 4));
            Due.due("tally", x.tally(i % 2, i % 3, i > 1, 5 * i), o.tally(i % 2, i % 3, i > 1, 5 * i));
        }
        Due.due("work", x.work(3), o.work(3));
        Due.feed(x, "list 5;");
        o.tape = "list 5;";
    }

    /** The yard, the lorries, the facts, the jobs and the books as full as can be, or nearly so. */
    void full() {
        for (int i = 9; i < 25; i++) {
            Due.due("store", x.store(i, i % 4), o.store(i, i % 4));
        }
        for (int i = 9; i < 25; i++) {
            Due.due("lorry", x.lorry(i), o.lorry(i));
        }
        for (int i = 0; i < 59; i++) {
            Due.due("sight", x.sight(i % 7, i % 6), o.sight(i % 7, i % 6));
        }
        for (int i = 0; i < 39; i++) {
            Due.due("jobUnload", x.jobUnload(i % 4, i % 3, -1), o.jobUnload(i % 4, i % 3, -1));
        }
        for (int i = 0; i < 29; i++) {
            Due.due("tally", x.tally(0, i % 5, true, i), o.tally(0, i % 5, true, i));
            Due.due("tally", x.tally(1, i % 5, true, i + 1), o.tally(1, i % 5, true, i + 1));
        }
    }

    /** All decks of three bays but two places. */
    void decks() {
        for (int i = 0; i < 22; i++) {
            load(i, i / 8, i / 2 % 4);
        }
        Due.feed(x, " ".repeat(1981));
        o.tape = " ".repeat(1981);
    }
}
