import java.util.Random;

/** Makes texts at random: plain ones, ones at the limits, and spoilt ones. */
final class TextMaker {
    static final String[] VARS = {"sort", "weight", "port", "bay", "row", "tier", "plugged",
        "osort", "oweight", "oport", "obay", "orow", "otier"};
    static final String[] SIGNS = {"==", "!=", "<", "<="};
    static final String[] SPOIL = {"(", ")", "+", "-", "*", ";", "==", "=", "!", "<", "<=", "!=", "if", "or", "and",
        "not", "pair", "place", "bays", "plug", "x", "abcdefgh", "abcdefghi", "1234", "12345", "#", "\u00e9", "Z", "0",
        "sort", "7"};

    final Random r;
    boolean big;
    int names;

    TextMaker(Random r) {
        this.r = r;
    }

    String gap() {
        return r.nextInt(12) == 0 ? new String[] {"\t", "\n", "\r\n", "  "}[r.nextInt(4)] : " ";
    }

    String number() {
        return Integer.toString(big ? r.nextInt(10000) : r.nextInt(3) == 0 ? r.nextInt(100) : r.nextInt(6));
    }

    String unit(int depth) {
        int k = r.nextInt(10);
        if (k < 3) {
            return number();
        }
        if (k < 9 || depth == 0) {
            return VARS[r.nextInt(VARS.length)];
        }
        return "(" + sum(depth - 1) + ")";
    }

    String sum(int depth) {
        StringBuilder s = new StringBuilder(unit(depth));
        int more = big ? 4 : 2;
        while (r.nextInt(5) < more && s.length() < 300) {
            s.append(new String[] {"+", " - ", "*", " * "}[r.nextInt(4)]).append(unit(depth));
        }
        return s.toString();
    }

    String literal() {
        StringBuilder s = new StringBuilder();
        while (r.nextInt(5) == 0) {
            s.append("not ");
        }
        if (r.nextInt(2) == 0) {
            String v = VARS[r.nextInt(VARS.length)];
            return s.append(v).append(gap()).append(SIGNS[r.nextInt(4)]).append(gap()).append(r.nextInt(4)).toString();
        }
        return s.append(sum(big ? 6 : 2)).append(gap()).append(SIGNS[r.nextInt(4)]).append(sum(2)).toString();
    }

    String condition() {
        StringBuilder s = new StringBuilder(literal());
        while (r.nextInt(3) == 0) {
            s.append(r.nextBoolean() ? " and " : " or ").append(literal());
        }
        return s.toString();
    }

    String name() {
        names++;
        if (r.nextInt(40) == 0) {
            return "a";
        }
        StringBuilder s = new StringBuilder("r");
        for (int n = names; n > 0; n /= 20) {
            s.append((char) ('a' + n % 20));
        }
        return s.toString();
    }

    String rule() {
        return (r.nextInt(3) == 0 ? "place " : "pair ") + name() + " if" + gap() + condition() + ";";
    }

    String tell() {
        switch (r.nextInt(8)) {
            case 0: return "bays " + (2 + r.nextInt(4)) + ";";
            case 1: return "list " + r.nextInt(300) + ";" + gap();
            case 2: return "trim " + r.nextInt(400) + ";";
            case 3: return "bend" + r.nextInt(800) + " ;";
            case 4: return "lift " + (20 + r.nextInt(60)) + ";";
            case 5: return "plug " + r.nextInt(5) + " " + r.nextInt(4) + ";";
            default: return rule();
        }
    }

    String plain() {
        StringBuilder s = new StringBuilder();
        names = 0;
        int n = r.nextInt(8);
        if (r.nextInt(3) > 0) {
            s.append("bays ").append(3 + r.nextInt(3)).append("; ");
        }
        for (int i = 0; i < n; i++) {
            s.append(tell()).append(gap());
        }
        return s.toString();
    }

    String full() {
        StringBuilder s = new StringBuilder();
        names = 0;
        big = r.nextBoolean();
        int n = r.nextInt(30);
        for (int i = 0; i < n; i++) {
            s.append(r.nextInt(3) == 0 ? tell() : rule());
        }
        if (r.nextInt(3) == 0) {
            s.append("place zz if 1 <");
            int depth = 4 + r.nextInt(4);
            for (int i = 0; i < depth; i++) {
                s.append("( 2 *");
            }
            s.append("3");
            for (int i = 0; i < depth; i++) {
                s.append(")");
            }
            s.append(";");
        }
        if (r.nextInt(3) == 0) {
            int more = 120 + r.nextInt(280);
            s.append("pair zzz if ");
            for (int i = 0; i < more; i++) {
                s.append(r.nextBoolean() ? "1+" : "not ");
            }
        }
        if (r.nextInt(3) == 0) {
            int more = 110 + r.nextInt(30);
            for (int i = 0; i < more; i++) {
                s.append("list ").append(r.nextInt(10000)).append(";");
            }
        }
        big = false;
        return s.toString();
    }

    String spoilt() {
        StringBuilder s = new StringBuilder(r.nextInt(3) == 0 ? full() : plain());
        int n = 1 + r.nextInt(2);
        for (int i = 0; i < n; i++) {
            int at = r.nextInt(s.length() + 1);
            switch (r.nextInt(3)) {
                case 0: s.insert(at, SPOIL[r.nextInt(SPOIL.length)]); break;
                case 1: s.delete(at, Math.min(s.length(), at + 1 + r.nextInt(4))); break;
                default: s.setLength(at); break;
            }
        }
        return s.toString();
    }

    String wrong() {
        String[] tells = {"bays 1;", "bays 6;", "bays 0;", "lift 0;", "lift 0000;", "plug 5 0;", "plug 0 4;",
            "plug 9 9;", "pair a if 1<2;", "place a if 1<2;", "bays 3;", "list 0;"};
        StringBuilder s = new StringBuilder();
        for (int i = 0; i < 1 + r.nextInt(3); i++) {
            s.append(tells[r.nextInt(tells.length)]);
        }
        return s.toString();
    }

    String text() {
        int k = r.nextInt(20);
        String s = k < 10 ? plain() : k < 13 ? full() : k < 18 ? spoilt() : wrong();
        return s.length() > 2000 ? s.substring(0, 2000) : s;
    }
}
