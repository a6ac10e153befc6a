import java.util.Random;

/** Conditions with sums as great as a text can tell, held against the Oracle's. */
public final class ArithmeticTest {
    final Random r = new Random(11);

    String factor() {
        String[] few = {"9999", "9998", "weight", "1", "0", "7", "row", "1000", "4096", "(0-9999)", "(1-weight)"};
        return few[r.nextInt(few.length)];
    }

    String product(int n) {
        StringBuilder s = new StringBuilder(factor());
        for (int i = 1; i < n; i++) {
            s.append("*").append(factor());
        }
        return s.toString();
    }

    String side() {
        StringBuilder s = new StringBuilder(product(1 + r.nextInt(9)));
        int terms = r.nextInt(3);
        for (int i = 0; i < terms; i++) {
            s.append(r.nextBoolean() ? "+" : "-");
            s.append(r.nextInt(4) == 0 ? "(" + product(3) + "-" + product(6) + ")*" + factor() : product(1 + r.nextInt(8)));
        }
        return s.toString();
    }

    String condition() {
        String[] signs = {"==", "!=", "<", "<="};
        String left = side();
        String right = r.nextInt(3) == 0 ? left + (r.nextBoolean() ? "+" : "-") + r.nextInt(2) : side();
        return (r.nextInt(4) == 0 ? "not " : "") + left + signs[r.nextInt(4)] + right;
    }

    public static void main(String[] args) {
        ArithmeticTest t = new ArithmeticTest();
        int held = 0;
        for (int i = 0; i < 6000; i++) {
            String c = t.condition() + (t.r.nextInt(3) == 0 ? " and " + t.condition() : "")
                    + (t.r.nextInt(3) == 0 ? " or " + t.condition() : "");
            String text = "place a if " + c + ";";
            BoxQuay x = new BoxQuay();
            Oracle o = new Oracle();
            Due.feed(x, text);
            o.tape = text;
            Due.due("read of " + text, x.read(), o.read());
            int weight = 1 + t.r.nextInt(40);
            int row = t.r.nextInt(4);
            x.box(weight, 0, 0);
            o.box(weight, 0, 0);
            x.load(0, 0, row);
            o.load(0, 0, row);
            held += o.places(0);
            Due.due(text + " of weight " + weight + " in row " + row, x.places(0), o.places(0));
        }
        System.out.println("6000 conditions, of which " + held + " held");
        Due.end();
    }
}
