import java.util.Random;

/** Conditions with sums as great as a text can tell, held against the Oracle's. */
public final class ArithmeticTest {
    final Random r = new Random(11);

    String factor() {
        String[] few = {"9999", "9998", "weight", "1", "0", "7", "row", "1000", "4096", "(0-9999)", "(1-weight)"};
        return few[r.nextInt(few.length)];
    }

    String product(int n) {
        StringBuilder s = new StringBuilder(factor());
        for (int i = 1; i < n; i++) {
            s.append("*").append(factor());
        }
        return s.toString();
    }

    String side() {
        StringBuilder s = new StringBuilder(product(1 + r.nextInt(9)));
        int terms = r.nextInt(3);
        for (int i = 0; i < terms; i++) {
            s.append(r.nextBoolean() ? "+" : "-");
            boolean deep = r.nextInt(4) == 0;
            s.append(deep ? "(" + product(3) + "-" + product(6) + ")*" + factor() : product(1 + r.nextInt(8)));
        }
        return s.toString();
    }

    /** Two sides that are alike, or differ by one, and have limbs that carry into one another. */
    String identity() {
        String a = product(1 + r.nextInt(6));
        String b = product(1 + r.nextInt(6));
        String c = factor();
        String sign = new String[] {"==", "!=", "<", "<="}[r.nextInt(4)];
        String off = new String[] {"", "+1", "-1"}[r.nextInt(3)];
        switch (r.nextInt(4)) {
            case 0: return "(" + a + "+" + b + ")*(" + a + "-" + b + ")" + sign + a + "*" + a + "-" + b + "*" + b + off;
            case 1: return a + "+" + b + "-(" + a + ")" + off + sign + b;
            case 2: return "(" + a + "+" + b + ")*" + c + sign + a + "*" + c + "+" + c + "*" + b + off;
            default: return "(" + a + "-" + b + ")*" + c + off + sign + c + "*" + a + "-(" + c + "*" + b + ")";
        }
    }

    String condition() {
        if (r.nextInt(3) == 0) {
            return identity();
        }
        String[] signs = {"==", "!=", "<", "<="};
        String left = side();
        String right = r.nextInt(3) == 0 ? left + (r.nextBoolean() ? "+" : "-") + r.nextInt(2) : side();
        return (r.nextInt(4) == 0 ? "not " : "") + left + signs[r.nextInt(4)] + right;
    }

    public static void main(String[] args) {
        ArithmeticTest t = new ArithmeticTest();
        int held = 0;
        for (int i = 0; i < 6000; i++) {
            String c = t.condition() + (t.r.nextInt(3) == 0 ? " and " + t.condition() : "")
                    + (t.r.nextInt(3) == 0 ? " or " + t.condition() : "");
            String text = "place a if " + c + ";";
            BoxQuay x = new BoxQuay();
            Oracle o = new Oracle();
            Due.feed(x, text);
            o.tape = text;
            Due.due("read of " + text, x.read(), o.read());
            int weight = 1 + t.r.nextInt(40);
            int row = t.r.nextInt(4);
            x.box(weight, 0, 0);
            o.box(weight, 0, 0);
            x.load(0, 0, row);
            o.load(0, 0, row);
            held += o.places(0);
            Due.due(text + " of weight " + weight + " in row " + row, x.places(0), o.places(0));
        }
        System.out.println("6000 conditions, of which " + held + " held");
        Due.end();
    }
}
