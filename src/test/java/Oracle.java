import java.math.BigInteger;
import java.nio.charset.StandardCharsets;
import java.util.ArrayList;
import java.util.HashMap;
import java.util.HashSet;
import java.util.List;
import java.util.Map;
import java.util.Set;
import java.util.regex.Matcher;
import java.util.regex.Pattern;

/**
 * The document once more, told as plainly and as slowly as may be, with the whole Java library:
 * everything is counted anew from where the boxes stand. OracleTest holds the program against it.
 */
final class Oracle {
    static final int NONE = -1;

    // ---- texts

    static final class Token {
        final String kind; // a word or sign itself, "INT", "NAME", "BAD", "END"
        final String text;
        final int place;

        Token(String kind, String text, int place) {
            this.kind = kind;
            this.text = text;
            this.place = place;
        }
    }

    static final Set<String> WORDS = new HashSet<>(List.of("bays", "list", "trim", "bend", "lift", "plug", "pair",
            "place", "if", "or", "and", "not", "sort", "weight", "port", "bay", "row", "tier", "plugged", "osort",
            "oweight", "oport", "obay", "orow", "otier"));
    static final List<String> VARS = List.of("sort", "weight", "port", "bay", "row", "tier", "plugged", "osort",
            "oweight", "oport", "obay", "orow", "otier");
    static final Pattern PIECE = Pattern.compile("[a-z]+|[0-9]+|==|!=|<=|[;+*()<-]|[\\x00-\\xff]");

    static List<Token> tokens(String text) {
        List<Token> all = new ArrayList<>();
        Matcher m = PIECE.matcher(text);
        while (m.find()) {
            String t = m.group();
            char c = t.charAt(0);
            if (" \t\n\r".indexOf(c) >= 0) {
                continue;
            }
            String kind = "BAD";
            if (c >= 'a' && c <= 'z') {
                kind = t.length() > 8 ? "BAD" : WORDS.contains(t) ? t : "NAME";
            } else if (c >= '0' && c <= '9') {
                kind = t.length() > 4 ? "BAD" : "INT";
            } else if (List.of(";", "+", "-", "*", "==", "!=", "<", "<=", "(", ")").contains(t)) {
                kind = t;
            }
            all.add(new Token(kind, t, m.start()));
        }
        all.add(new Token("END", "", text.length()));
        return all;
    }

    interface Expr {
        BigInteger value(int[] vars);
    }

    interface Cond {
        boolean holds(int[] vars);
    }

    static final class Fault extends RuntimeException {
        private static final long serialVersionUID = 1L;
        final int place;

        Fault(int place) {
            this.place = place;
        }
    }

    /** What a text tells. */
    static final class Told {
        int bays = 3;
        int list = 9999;
        int trim = 9999;
        int bend = 9999;
        int lift = 99;
        Set<Integer> plugs = new HashSet<>();
        List<Cond> pairs = new ArrayList<>();
        List<Cond> places = new ArrayList<>();
        Set<String> names = new HashSet<>();
        int late;
        int latePlace = NONE;
    }

    static final class Parser {
        final List<Token> tokens;
        int i;
        final Told told = new Told();

        Parser(List<Token> tokens) {
            this.tokens = tokens;
        }

        String kind() {
            return tokens.get(i).kind;
        }

        Token need(String kind) {
            Token t = tokens.get(i);
            if (!t.kind.equals(kind)) {
                throw new Fault(t.place);
            }
            i++;
            return t;
        }

        boolean take(String kind) {
            if (kind().equals(kind)) {
                i++;
                return true;
            }
            return false;
        }

        void late(int fault, int place) {
            if (told.late == 0) {
                told.late = fault;
                told.latePlace = place;
            }
        }

        void text() {
            while (!kind().equals("END")) {
                tell();
            }
        }

        void tell() {
            String k = kind();
            if (List.of("bays", "list", "trim", "bend", "lift").contains(k)) {
                i++;
                Token t = need("INT");
                need(";");
                int v = Integer.parseInt(t.text);
                if (k.equals("bays")) {
                    told.bays = v;
                    if (v < 2 || v > 5) {
                        late(5, t.place);
                    }
                } else if (k.equals("list")) {
                    told.list = v;
                } else if (k.equals("trim")) {
                    told.trim = v;
                } else if (k.equals("bend")) {
                    told.bend = v;
                } else {
                    told.lift = v;
                    if (v == 0) {
                        late(5, t.place);
                    }
                }
            } else if (k.equals("plug")) {
                i++;
                Token a = need("INT");
                Token b = need("INT");
                need(";");
                if (Integer.parseInt(a.text) > 4) {
                    late(5, a.place);
                }
                if (Integer.parseInt(b.text) > 3) {
                    late(5, b.place);
                }
                told.plugs.add(Integer.parseInt(a.text) * 100000 + Integer.parseInt(b.text));
            } else if (k.equals("pair") || k.equals("place")) {
                i++;
                Token name = need("NAME");
                if (!told.names.add(name.text)) {
                    late(3, name.place);
                }
                need("if");
                Cond c = cond();
                need(";");
                (k.equals("pair") ? told.pairs : told.places).add(c);
            } else {
                throw new Fault(tokens.get(i).place);
            }
        }

        Cond cond() {
            Cond c = all();
            while (take("or")) {
                Cond a = c;
                Cond b = all();
                c = v -> a.holds(v) || b.holds(v);
            }
            return c;
        }

        Cond all() {
            Cond c = lit();
            while (take("and")) {
                Cond a = c;
                Cond b = lit();
                c = v -> a.holds(v) && b.holds(v);
            }
            return c;
        }

        Cond lit() {
            if (take("not")) {
                Cond c = lit();
                return v -> !c.holds(v);
            }
            Expr a = sum();
            String k = kind();
            if (!List.of("==", "!=", "<", "<=").contains(k)) {
                throw new Fault(tokens.get(i).place);
            }
            i++;
            Expr b = sum();
            switch (k) {
                case "==": return v -> a.value(v).compareTo(b.value(v)) == 0;
                case "!=": return v -> a.value(v).compareTo(b.value(v)) != 0;
                case "<": return v -> a.value(v).compareTo(b.value(v)) < 0;
                default: return v -> a.value(v).compareTo(b.value(v)) <= 0;
            }
        }

        Expr sum() {
            Expr e = part();
            while (kind().equals("+") || kind().equals("-")) {
                boolean plus = kind().equals("+");
                i++;
                Expr a = e;
                Expr b = part();
                e = plus ? v -> a.value(v).add(b.value(v)) : v -> a.value(v).subtract(b.value(v));
            }
            return e;
        }

        Expr part() {
            Expr e = unit();
            while (take("*")) {
                Expr a = e;
                Expr b = unit();
                e = v -> a.value(v).multiply(b.value(v));
            }
            return e;
        }

        Expr unit() {
            String k = kind();
            if (k.equals("INT")) {
                BigInteger n = new BigInteger(need("INT").text);
                return v -> n;
            }
            int var = VARS.indexOf(k);
            if (var >= 0) {
                i++;
                return v -> BigInteger.valueOf(v[var]);
            }
            need("(");
            Expr e = sum();
            need(")");
            return e;
        }
    }

    /** The first place of a ROOM fault, counted on the bare tokens. */
    static int roomPlace(List<Token> tokens) {
        int pairs = 0;
        int places = 0;
        int depth = 0;
        for (int i = 0; i < tokens.size(); i++) {
            Token t = tokens.get(i);
            pairs += t.kind.equals("pair") ? 1 : 0;
            places += t.kind.equals("place") ? 1 : 0;
            depth += t.kind.equals("(") ? 1 : t.kind.equals(")") ? -1 : 0;
            if (i >= 400 && !t.kind.equals("END") || pairs > 8 || places > 8 || depth > 6) {
                return t.place;
            }
        }
        return Integer.MAX_VALUE;
    }

    String tape = "";
    int faultPlace = NONE;
    Told told = new Told();

    int feed(int a, int b, int c, int d, int e) {
        if (tape.length() + 20 > 2000) {
            return NONE;
        }
        byte[] bytes = new byte[20];
        int[] words = {a, b, c, d, e};
        for (int i = 0; i < 20; i++) {
            bytes[i] = (byte) (words[i / 4] >>> (24 - 8 * (i % 4)));
        }
        tape += new String(bytes, StandardCharsets.ISO_8859_1);
        return tape.length();
    }

    int back(int n) {
        if (n < 0 || n > tape.length()) {
            return NONE;
        }
        tape = tape.substring(0, tape.length() - n);
        return tape.length();
    }

    int read() {
        List<Token> all = tokens(tape);
        tape = "";
        Parser p = new Parser(all);
        int syntax = Integer.MAX_VALUE;
        try {
            p.text();
        } catch (Fault f) {
            syntax = f.place;
        }
        int room = roomPlace(all);
        if (syntax != Integer.MAX_VALUE && syntax <= room) {
            faultPlace = syntax;
            return 1;
        }
        if (room != Integer.MAX_VALUE) {
            faultPlace = room;
            return 2;
        }
        faultPlace = p.told.latePlace;
        if (p.told.late != 0) {
            return p.told.late;
        }
        for (Box b : boxes) {
            if (b.where == 1 && b.bay >= p.told.bays) {
                return -3;
            }
        }
        told = p.told;
        startWork();
        return 0;
    }

    int place() {
        return faultPlace;
    }

    // ---- boxes

    static final class Box {
        int weight;
        int port;
        int sort;
        boolean stuck;
        int where;
        int bay = NONE;
        int row = NONE;
        int tier = NONE;
    }

    List<Box> boxes = new ArrayList<>();
    List<List<Integer>> stacks = new ArrayList<>();
    boolean[] covered = {true, true, true, true, true};

    Oracle() {
        for (int i = 0; i < 4; i++) {
            stacks.add(new ArrayList<>());
        }
        startWork();
    }

    boolean has(int box) {
        return box >= 0 && box < boxes.size();
    }

    boolean hasBay(int bay) {
        return bay >= 0 && bay < told.bays;
    }

    boolean hasPlace(int bay, int row) {
        return hasBay(bay) && row >= 0 && row <= 3;
    }

    int box(int weight, int port, int sort) {
        if (boxes.size() == 30 || weight < 1 || weight > 40 || port < 0 || port > 4 || sort < 0 || sort > 5) {
            return NONE;
        }
        Box b = new Box();
        b.weight = weight;
        b.port = port;
        b.sort = sort;
        boxes.add(b);
        return boxes.size() - 1;
    }

    boolean stuck(int box, boolean is) {
        if (!has(box)) {
            return false;
        }
        boxes.get(box).stuck = is;
        return true;
    }

    boolean cover(int bay, boolean on) {
        if (!hasBay(bay) || covered[bay] == on) {
            return false;
        }
        for (Box b : boxes) {
            if (!on && b.where == 1 && b.bay == bay && b.tier >= 2) {
                return false;
            }
        }
        covered[bay] = on;
        return true;
    }

    void toStack(int box, int stack) {
        Box b = boxes.get(box);
        b.where = 2;
        b.bay = stack;
        b.row = NONE;
        b.tier = stacks.get(stack).size();
        stacks.get(stack).add(box);
    }

    void toAway(int box) {
        Box b = boxes.get(box);
        if (b.where == 2) {
            stacks.get(b.bay).remove(Integer.valueOf(box));
        }
        b.where = 0;
        b.bay = NONE;
        b.row = NONE;
        b.tier = NONE;
    }

    int store(int box, int stack) {
        if (!has(box) || stack < 0 || stack > 3 || boxes.get(box).where != 0 || stacks.get(stack).size() == 4) {
            return NONE;
        }
        toStack(box, stack);
        return boxes.get(box).tier;
    }

    int fetch(int stack) {
        if (stack < 0 || stack > 3 || stacks.get(stack).isEmpty()) {
            return NONE;
        }
        int box = stacks.get(stack).get(stacks.get(stack).size() - 1);
        if (stopped(box, facts.size()) == 1) {
            return -2;
        }
        toAway(box);
        return box;
    }

    int at(int bay, int row, int tier) {
        if (!hasPlace(bay, row)) {
            return NONE;
        }
        for (int i = 0; i < boxes.size(); i++) {
            Box b = boxes.get(i);
            if (b.where == 1 && b.bay == bay && b.row == row && b.tier == tier) {
                return i;
            }
        }
        return NONE;
    }

    int list() {
        int sum = 0;
        for (Box b : boxes) {
            sum += b.where == 1 ? b.weight * (2 * b.row - 3) : 0;
        }
        return sum;
    }

    int trim() {
        int sum = 0;
        for (Box b : boxes) {
            sum += b.where == 1 ? b.weight * (2 * b.bay + 1 - told.bays) : 0;
        }
        return sum;
    }

    int weight(int lastBay) {
        int sum = 0;
        for (Box b : boxes) {
            sum += b.where == 1 && b.bay <= lastBay ? b.weight : 0;
        }
        return sum;
    }

    int bend() {
        int most = 0;
        for (int upTo = 0; upTo <= told.bays - 2; upTo++) {
            int sum = 0;
            for (int c = 0; c <= upTo; c++) {
                sum += told.bays * weight(c) - (c + 1) * weight(4);
            }
            most = Math.max(most, Math.abs(sum));
        }
        return most;
    }

    boolean borne() {
        return Math.abs(list()) <= told.list && Math.abs(trim()) <= told.trim && bend() <= told.bend;
    }

    int free(int bay, int row) {
        int low = covered[bay] ? 2 : 0;
        return at(bay, row, low) == NONE ? low : at(bay, row, low + 1) == NONE ? low + 1 : NONE;
    }

    void aboard(int box, int bay, int row, int tier) {
        Box b = boxes.get(box);
        if (b.where == 2) {
            stacks.get(b.bay).remove(Integer.valueOf(box));
        }
        b.where = 1;
        b.bay = bay;
        b.row = row;
        b.tier = tier;
    }

    int load(int box, int bay, int row) {
        if (!has(box) || !hasPlace(bay, row)) {
            return NONE;
        }
        Box b = boxes.get(box);
        if (b.where == 1 || b.where == 2 && b.tier != stacks.get(b.bay).size() - 1) {
            return NONE;
        }
        int tier = free(bay, row);
        if (tier == NONE) {
            return NONE;
        }
        if (b.weight > told.lift) {
            return -2;
        }
        int[] before = {Math.abs(list()), Math.abs(trim()), bend()};
        int stack = b.where == 2 ? b.bay : NONE;
        aboard(box, bay, row, tier);
        if (!borne() && !(Math.abs(list()) <= before[0] && Math.abs(trim()) <= before[1] && bend() <= before[2])) {
            toAway(box);
            if (stack != NONE) {
                toStack(box, stack);
            }
            return -3;
        }
        return tier;
    }

    int unload(int bay, int row, int stack) {
        if (!hasPlace(bay, row) || stack < -1 || stack > 3) {
            return NONE;
        }
        int low = covered[bay] ? 2 : 0;
        int high = at(bay, row, low + 1) != NONE ? low + 1 : low;
        int box = at(bay, row, high);
        if (box == NONE) {
            return NONE;
        }
        List<Integer> lifted = new ArrayList<>();
        if (boxes.get(box).stuck && high > low) {
            lifted.add(at(bay, row, low));
        }
        lifted.add(box);
        if (stack != NONE && stacks.get(stack).size() + lifted.size() > 4) {
            return NONE;
        }
        int sum = 0;
        for (int b : lifted) {
            sum += boxes.get(b).weight;
        }
        if (sum > told.lift) {
            return -2;
        }
        int[] before = {Math.abs(list()), Math.abs(trim()), bend()};
        for (int b : lifted) {
            toAway(b);
        }
        if (!borne() && !(Math.abs(list()) <= before[0] && Math.abs(trim()) <= before[1] && bend() <= before[2])) {
            for (int i = 0; i < lifted.size(); i++) {
                aboard(lifted.get(i), bay, row, high - lifted.size() + 1 + i);
            }
            return -3;
        }
        for (int b : lifted) {
            if (stack != NONE) {
                toStack(b, stack);
            }
        }
        return lifted.size();
    }

    int of(int box, int what) {
        if (!has(box)) {
            return NONE;
        }
        Box b = boxes.get(box);
        int[] all = {b.weight, b.port, b.sort, b.stuck ? 1 : 0, b.where, b.bay, b.row, b.tier};
        return what >= 0 && what < 8 ? all[what] : NONE;
    }

    int ship(int what) {
        int[] all = {list(), trim(), bend(), weight(4), borne() ? 1 : 0};
        return what >= 0 && what < 5 ? all[what] : -1000000;
    }

    int would(int box, int bay, int row, int what) {
        if (!has(box) || !hasPlace(bay, row) || boxes.get(box).where == 1 || what < 0 || what > 2) {
            return -1000000;
        }
        Box b = new Box();
        b.weight = boxes.get(box).weight;
        b.where = 1;
        b.bay = bay;
        b.row = row;
        boxes.add(b);
        int answer = ship(what);
        boxes.remove(boxes.size() - 1);
        return answer;
    }

    // ---- rules

    int[] vars(Box a, Box b) {
        int plugged = told.plugs.contains(a.bay * 100000 + a.row) ? 1 : 0;
        if (b == null) {
            return new int[] {a.sort, a.weight, a.port, a.bay, a.row, a.tier, plugged, 0, 0, 0, 0, 0, 0};
        }
        return new int[] {a.sort, a.weight, a.port, a.bay, a.row, a.tier, plugged,
            b.sort, b.weight, b.port, b.bay, b.row, b.tier};
    }

    List<Integer> brokenPairs(int rule) {
        List<Integer> all = new ArrayList<>();
        for (int a = 0; a < boxes.size(); a++) {
            for (int b = 0; b < boxes.size(); b++) {
                if (a != b && boxes.get(a).where == 1 && boxes.get(b).where == 1
                        && told.pairs.get(rule).holds(vars(boxes.get(a), boxes.get(b)))) {
                    all.add(100 * a + b);
                }
            }
        }
        return all;
    }

    int pairs(int rule) {
        return rule >= 0 && rule < told.pairs.size() ? brokenPairs(rule).size() : NONE;
    }

    int pair(int rule, int i) {
        if (rule < 0 || rule >= told.pairs.size()) {
            return NONE;
        }
        List<Integer> all = brokenPairs(rule);
        return i >= 0 && i < all.size() ? all.get(i) : NONE;
    }

    int places(int rule) {
        if (rule < 0 || rule >= told.places.size()) {
            return NONE;
        }
        int n = 0;
        for (Box b : boxes) {
            n += b.where == 1 && told.places.get(rule).holds(vars(b, null)) ? 1 : 0;
        }
        return n;
    }

    int broken() {
        int n = 0;
        for (int i = 0; i < told.pairs.size(); i++) {
            n += pairs(i);
        }
        for (int i = 0; i < told.places.size(); i++) {
            n += places(i);
        }
        return n;
    }

    /** All pair rules of one box against the others, which is all that one box more can change. */
    int brokenOf(int box) {
        int n = 0;
        Box a = boxes.get(box);
        for (int i = 0; i < boxes.size(); i++) {
            Box b = boxes.get(i);
            for (Cond c : told.pairs) {
                n += i != box && b.where == 1 && c.holds(vars(a, b)) ? 1 : 0;
                n += i != box && b.where == 1 && c.holds(vars(b, a)) ? 1 : 0;
            }
        }
        for (Cond c : told.places) {
            n += c.holds(vars(a, null)) ? 1 : 0;
        }
        return n;
    }

    int breaks(int box, int bay, int row) {
        if (!has(box) || !hasPlace(bay, row) || boxes.get(box).where == 1 || free(bay, row) == NONE) {
            return NONE;
        }
        Box b = boxes.get(box);
        Box was = new Box();
        was.where = b.where;
        was.bay = b.bay;
        was.row = b.row;
        was.tier = b.tier;
        int before = broken();
        int tier = free(bay, row);
        b.where = 1;
        b.bay = bay;
        b.row = row;
        b.tier = tier;
        int after = broken();
        b.where = was.where;
        b.bay = was.bay;
        b.row = was.row;
        b.tier = was.tier;
        return after - before;
    }

    boolean isAbove(Box a, Box b) {
        if (a == b || a.where != 1 || b.where != 1 || a.bay != b.bay) {
            return false;
        }
        boolean sameFloor = a.tier / 2 == b.tier / 2;
        return a.row == b.row && sameFloor && a.tier > b.tier || b.tier < 2 && a.tier >= 2;
    }

    int above(int box) {
        if (!has(box) || boxes.get(box).where != 1) {
            return NONE;
        }
        int n = 0;
        for (Box a : boxes) {
            n += isAbove(a, boxes.get(box)) ? 1 : 0;
        }
        return n;
    }

    List<Integer> overstowing(int port) {
        List<Integer> all = new ArrayList<>();
        for (int i = 0; i < boxes.size(); i++) {
            boolean is = false;
            for (Box b : boxes) {
                is |= b.port == port && boxes.get(i).port > port && isAbove(boxes.get(i), b);
            }
            if (is) {
                all.add(i);
            }
        }
        return all;
    }

    int overstows(int port) {
        if (port == NONE) {
            int n = 0;
            for (int p = 0; p < 5; p++) {
                n += overstowing(p).size();
            }
            return n;
        }
        return port < 0 || port > 4 ? -2 : overstowing(port).size();
    }

    int overstow(int port, int i) {
        if (port < 0 || port > 4) {
            return NONE;
        }
        List<Integer> all = overstowing(port);
        return i >= 0 && i < all.size() ? all.get(i) : NONE;
    }

    int covers(int port) {
        if (port < 0 || port > 4) {
            return NONE;
        }
        int bits = 0;
        for (Box b : boxes) {
            for (Box c : boxes) {
                if (b.where == 1 && c.where == 1 && b.bay == c.bay && b.tier < 2 && c.tier >= 2 && b.port == port) {
                    bits |= 1 << b.bay;
                }
            }
        }
        return bits;
    }

    // ---- two cranes

    int ticks(int lifts, int s) {
        if (lifts < 0 || s < 0 || s > told.bays) {
            return NONE;
        }
        int[] c = new int[10];
        int rest = lifts;
        for (int k = 0; k < 10; k++) {
            c[k] = rest % 21;
            rest /= 21;
            if (c[k] > 0 && k >= told.bays) {
                return NONE;
            }
        }
        int a = crawl(c, 0, 1, s);
        int b = crawl(c, told.bays - 1, -1, told.bays - s);
        return Math.max(a, b);
    }

    static int crawl(int[] c, int from, int step, int bays) {
        int left = 0;
        for (int i = 0; i < bays; i++) {
            left += c[from + i * step];
        }
        int ticks = 0;
        for (int i = 0; i < bays && left > 0; i++) {
            ticks += i > 0 ? 1 : 0;
            ticks += 2 * c[from + i * step];
            left -= c[from + i * step];
        }
        return ticks;
    }

    int split(int lifts) {
        int best = NONE;
        for (int s = told.bays; s >= 0; s--) {
            int t = ticks(lifts, s);
            if (t == NONE) {
                return NONE;
            }
            if (best == NONE || t <= ticks(lifts, best)) {
                best = s;
            }
        }
        return best;
    }

    // ---- lorries

    List<Integer> lorries = new ArrayList<>();

    int lorry(int box) {
        if (lorries.size() == 12 || !has(box) || boxes.get(box).where != 2 || lorries.contains(box)) {
            return NONE;
        }
        lorries.add(box);
        return lorries.size();
    }

    int clear() {
        int n = lorries.size();
        lorries.clear();
        return n;
    }

    List<Integer> row() {
        List<Integer> all = new ArrayList<>();
        for (int b : lorries) {
            if (boxes.get(b).where == 2) {
                all.add(b);
            }
        }
        return all;
    }

    static List<List<Integer>> copy(List<List<Integer>> stacks) {
        List<List<Integer>> all = new ArrayList<>();
        for (List<Integer> s : stacks) {
            all.add(new ArrayList<>(s));
        }
        return all;
    }

    static void serve(List<List<Integer>> yard, List<Integer> row) {
        boolean again = true;
        while (again && !row.isEmpty()) {
            again = false;
            for (List<Integer> s : yard) {
                if (!row.isEmpty() && !s.isEmpty() && s.get(s.size() - 1).equals(row.get(0))) {
                    s.remove(s.size() - 1);
                    row.remove(0);
                    again = true;
                }
            }
        }
    }

    /** The digs by the rule; null: no room. */
    List<Integer> ruleDigs() {
        List<List<Integer>> yard = copy(stacks);
        List<Integer> row = row();
        List<Integer> made = new ArrayList<>();
        serve(yard, row);
        while (!row.isEmpty()) {
            int from = NONE;
            for (int s = 0; s < 4; s++) {
                from = yard.get(s).contains(row.get(0)) ? s : from;
            }
            int to = NONE;
            int latest = -1;
            for (int s = 0; s < 4; s++) {
                if (s == from || yard.get(s).size() == 4) {
                    continue;
                }
                int when = yard.get(s).isEmpty() ? 2000 : 1000;
                for (int b : yard.get(s)) {
                    when = row.contains(b) ? Math.min(when, row.indexOf(b)) : when;
                }
                if (when > latest) {
                    latest = when;
                    to = s;
                }
            }
            if (to == NONE) {
                return null;
            }
            yard.get(to).add(yard.get(from).remove(yard.get(from).size() - 1));
            made.add(10 * from + to);
            serve(yard, row);
        }
        return made;
    }

    int digs() {
        List<Integer> all = ruleDigs();
        return all == null ? -2 : all.size();
    }

    int dig(int i) {
        List<Integer> all = ruleDigs();
        return all == null || i < 0 || i >= all.size() ? NONE : all.get(i);
    }

    static final class State {
        List<List<Integer>> yard;
        List<Integer> row;
        List<Integer> made = new ArrayList<>();
    }

    /** Breadth first, each state once, so the first way of the fewest is met first; null: none up to 5. */
    List<Integer> leastDigs() {
        State first = new State();
        first.yard = copy(stacks);
        first.row = row();
        serve(first.yard, first.row);
        List<State> now = new ArrayList<>(List.of(first));
        Set<String> seen = new HashSet<>();
        for (int depth = 0; depth <= 5; depth++) {
            List<State> then = new ArrayList<>();
            for (State s : now) {
                if (s.row.isEmpty()) {
                    return s.made;
                }
                for (int from = 0; from < 4 && depth < 5; from++) {
                    for (int to = 0; to < 4; to++) {
                        if (from == to || s.yard.get(from).isEmpty() || s.yard.get(to).size() == 4) {
                            continue;
                        }
                        State t = new State();
                        t.yard = copy(s.yard);
                        t.row = new ArrayList<>(s.row);
                        t.made.addAll(s.made);
                        t.made.add(10 * from + to);
                        t.yard.get(to).add(t.yard.get(from).remove(t.yard.get(from).size() - 1));
                        serve(t.yard, t.row);
                        if (seen.add(t.yard.toString())) {
                            then.add(t);
                        }
                    }
                }
            }
            now = then;
        }
        return null;
    }

    int least() {
        if (row().size() > 6) {
            return -3;
        }
        List<Integer> all = leastDigs();
        return all == null ? -2 : all.size();
    }

    int leastDig(int i) {
        if (row().size() > 6) {
            return NONE;
        }
        List<Integer> all = leastDigs();
        return all == null || i < 0 || i >= all.size() ? NONE : all.get(i);
    }

    int blocked() {
        int n = 0;
        for (List<Integer> s : stacks) {
            for (int i = 0; i < s.size(); i++) {
                boolean is = false;
                for (int j = 0; j < i; j++) {
                    int mine = lorries.contains(s.get(i)) ? lorries.indexOf(s.get(i)) : 1000;
                    int its = lorries.contains(s.get(j)) ? lorries.indexOf(s.get(j)) : 1000;
                    is |= its < mine;
                }
                n += is ? 1 : 0;
            }
        }
        return n;
    }

    // ---- facts

    static final class Fact {
        char kind;
        int about;
        int tells;
        Map<Integer, Integer> rows = new HashMap<>();
    }

    List<Fact> facts = new ArrayList<>();

    int note(char kind, int about, int tells) {
        if (facts.size() == 60) {
            return NONE;
        }
        Fact f = new Fact();
        f.kind = kind;
        f.about = about;
        f.tells = tells;
        for (int i = 0; i < boxes.size(); i++) {
            if (boxes.get(i).where == 1) {
                f.rows.put(i, boxes.get(i).row);
            }
        }
        facts.add(f);
        return facts.size() - 1;
    }

    int sight(int box, int holder) {
        return has(box) && holder >= 0 && holder <= 5 ? note('s', box, holder) : NONE;
    }

    int customs(int box, boolean is) {
        return has(box) ? note(is ? 'x' : 'f', box, 0) : NONE;
    }

    int reading(int list) {
        return list >= -99999 && list <= 99999 ? note('r', NONE, list) : NONE;
    }

    int annul(int fact) {
        return fact >= 0 && fact < facts.size() && facts.get(fact).kind != 'v' ? note('v', NONE, fact) : NONE;
    }

    List<Fact> known(int n) {
        Set<Integer> gone = new HashSet<>();
        for (Fact f : facts.subList(0, n)) {
            if (f.kind == 'v') {
                gone.add(f.tells);
            }
        }
        List<Fact> all = new ArrayList<>();
        for (int i = 0; i < n; i++) {
            if (!gone.contains(i)) {
                all.add(facts.get(i));
            }
        }
        return all;
    }

    boolean knows(int n) {
        return n >= 0 && n <= facts.size();
    }

    List<Integer> way(int box, int n) {
        List<Integer> all = new ArrayList<>();
        for (Fact f : known(n)) {
            if (f.kind == 's' && f.about == box && (all.isEmpty() || all.get(all.size() - 1) != f.tells)) {
                all.add(f.tells);
            }
        }
        return all;
    }

    int last(int box, int n) {
        if (!has(box) || !knows(n)) {
            return NONE;
        }
        List<Integer> way = way(box, n);
        return way.isEmpty() ? -2 : way.get(way.size() - 1);
    }

    int path(int box, int n, int i) {
        if (!has(box) || !knows(n)) {
            return NONE;
        }
        List<Integer> way = way(box, n);
        return i >= 0 && i < way.size() ? way.get(i) : NONE;
    }

    int stopped(int box, int n) {
        if (!has(box) || !knows(n)) {
            return NONE;
        }
        int is = 0;
        for (Fact f : known(n)) {
            if (f.about == box && (f.kind == 'x' || f.kind == 'f')) {
                is = f.kind == 'x' ? 1 : 0;
            }
        }
        return is;
    }

    boolean allSo(int n, int box, int weight) {
        for (Fact f : known(n)) {
            if (f.kind == 'r') {
                int sum = 0;
                for (Map.Entry<Integer, Integer> e : f.rows.entrySet()) {
                    int w = e.getKey() == box ? weight : boxes.get(e.getKey()).weight;
                    sum += w * (2 * e.getValue() - 3);
                }
                if (sum != f.tells) {
                    return false;
                }
            }
        }
        return true;
    }

    int agrees(int n) {
        return !knows(n) ? NONE : allSo(n, NONE, 0) ? 1 : 0;
    }

    int weighs(int box, int n) {
        if (!has(box) || !knows(n)) {
            return NONE;
        }
        if (allSo(n, NONE, 0)) {
            return boxes.get(box).weight;
        }
        for (int w = 1; w <= 60; w++) {
            if (allSo(n, box, w)) {
                return w;
            }
        }
        return -2;
    }

    int suspects(int n) {
        if (!knows(n)) {
            return NONE;
        }
        int bits = 0;
        for (int b = 0; b < boxes.size(); b++) {
            for (int w = 1; w <= 60; w++) {
                if (w != boxes.get(b).weight && allSo(n, b, w)) {
                    bits |= 1 << b;
                    break;
                }
            }
        }
        return bits;
    }

    // ---- work

    static final class Job {
        int box = NONE;
        int bay;
        int row;
        int stack;
        boolean load;
        int crane = -100;
        int taken = -100;
        int ended = -100;
        int result = -100;
    }

    static final class Crane {
        int bay;
        Job job;
        int lifted;
        int moves;
        int did;
    }

    List<Job> jobs = new ArrayList<>();
    Crane[] cranes = new Crane[2];
    int tick;
    int windA;
    int windB;
    int shiftS;
    int shiftR;

    void startWork() {
        jobs.clear();
        cranes[0] = new Crane();
        cranes[1] = new Crane();
        cranes[1].bay = told.bays - 1;
        tick = 0;
        windA = 0;
        windB = -1;
        shiftS = 0;
        shiftR = 0;
    }

    int jobLoad(int box, int bay, int row) {
        if (jobs.size() == 40 || !has(box) || !hasPlace(bay, row)) {
            return NONE;
        }
        Job j = new Job();
        j.load = true;
        j.box = box;
        j.bay = bay;
        j.row = row;
        jobs.add(j);
        return jobs.size() - 1;
    }

    int jobUnload(int bay, int row, int stack) {
        if (jobs.size() == 40 || !hasPlace(bay, row) || stack < -1 || stack > 3) {
            return NONE;
        }
        Job j = new Job();
        j.bay = bay;
        j.row = row;
        j.stack = stack;
        jobs.add(j);
        return jobs.size() - 1;
    }

    int work(int n) {
        if (n < 0 || n > 200) {
            return NONE;
        }
        int ended = 0;
        for (int i = 0; i < n; i++, tick++) {
            if (shiftS > 0 && tick % (shiftS + shiftR) >= shiftS) {
                continue;
            }
            for (int c = 0; c < 2; c++) {
                ended += act(c) ? 1 : 0;
            }
        }
        return ended;
    }

    boolean act(int c) {
        Crane me = cranes[c];
        Crane other = cranes[1 - c];
        if (me.job == null) {
            for (Job j : jobs) {
                boolean side = c == 0
                        ? j.bay < other.bay && (other.job == null || j.bay < other.job.bay)
                        : j.bay > other.bay && (other.job == null || j.bay > other.job.bay);
                if (j.taken == -100 && side) {
                    j.taken = tick;
                    j.crane = c;
                    me.job = j;
                    break;
                }
            }
        }
        if (me.job == null) {
            return false;
        }
        if (me.bay != me.job.bay) {
            int to = me.bay + Integer.signum(me.job.bay - me.bay);
            if (to != other.bay) {
                me.bay = to;
                me.moves++;
            }
            return false;
        }
        if (tick >= windA && tick <= windB) {
            return false;
        }
        me.lifted++;
        if (me.lifted < 2) {
            return false;
        }
        Job j = me.job;
        j.result = j.load ? load(j.box, j.bay, j.row) : unload(j.bay, j.row, j.stack);
        j.ended = tick;
        me.job = null;
        me.lifted = 0;
        me.did++;
        return true;
    }

    int job(int job, int what) {
        if (job < 0 || job >= jobs.size() || what < 0 || what > 4) {
            return -100;
        }
        Job j = jobs.get(job);
        int[] all = {j.taken == -100 ? 0 : j.ended == -100 ? 1 : 2, j.crane, j.taken, j.ended, j.result};
        return all[what];
    }

    int crane(int crane, int what) {
        if (crane < 0 || crane > 1 || what < 0 || what > 4) {
            return NONE;
        }
        Crane c = cranes[crane];
        int[] all = {c.bay, c.job == null ? NONE : jobs.indexOf(c.job), c.lifted, c.moves, c.did};
        return all[what];
    }

    boolean wind(int a, int b) {
        if (a < 0 || b < a || b > 9999) {
            return false;
        }
        windA = a;
        windB = b;
        return true;
    }

    boolean shifts(int s, int r) {
        if (s < 0 || s > 500 || r < 0 || r > 500) {
            return false;
        }
        shiftS = s;
        shiftR = r;
        return true;
    }

    // ---- tally books

    List<List<int[]>> books = List.of(new ArrayList<>(), new ArrayList<>());

    int tally(int book, int box, boolean on, int tick) {
        if (book < 0 || book > 1 || books.get(book).size() == 30 || !has(box) || tick < 0 || tick > 9999) {
            return NONE;
        }
        books.get(book).add(new int[] {box, on ? 1 : 0, tick});
        return books.get(book).size() - 1;
    }

    Map<Integer, Integer> mates(int d) {
        Map<Integer, Integer> mates = new HashMap<>();
        for (int i = 0; i < books.get(0).size(); i++) {
            int[] r = books.get(0).get(i);
            for (int away = 0; away <= d && !mates.containsKey(i); away++) {
                for (int j = 0; j < books.get(1).size() && !mates.containsKey(i); j++) {
                    int[] q = books.get(1).get(j);
                    if (!mates.containsValue(j) && q[0] == r[0] && q[1] == r[1] && Math.abs(q[2] - r[2]) == away) {
                        mates.put(i, j);
                    }
                }
            }
        }
        return mates;
    }

    int mate(int row, int d) {
        if (row < 0 || row >= books.get(0).size() || d < 0 || d > 9999) {
            return NONE;
        }
        return mates(d).getOrDefault(row, -2);
    }

    int alone(int book, int d) {
        return book < 0 || book > 1 || d < 0 || d > 9999 ? NONE : books.get(book).size() - mates(d).size();
    }

    int odd(int book) {
        if (book < 0 || book > 1) {
            return NONE;
        }
        int n = 0;
        for (int b = 0; b < boxes.size(); b++) {
            int on = 0;
            int off = 0;
            for (int[] r : books.get(book)) {
                on += r[0] == b && r[1] == 1 ? 1 : 0;
                off += r[0] == b && r[1] == 0 ? 1 : 0;
            }
            n += on == off || on == off + 1 ? 0 : 1;
        }
        return n;
    }

    // ---- lashing and best places

    int bestLongest;
    int[] bestGangs;

    void deal(int g, int bay, int[] gangs) {
        if (bay < told.bays) {
            for (int i = 0; i < g; i++) {
                gangs[bay] = i;
                deal(g, bay + 1, gangs);
            }
            return;
        }
        int longest = 0;
        for (int i = 0; i < g; i++) {
            int sum = 0;
            for (Box b : boxes) {
                sum += b.where == 1 && b.tier >= 2 && gangs[b.bay] == i ? b.weight > 20 ? 3 : 2 : 0;
            }
            longest = Math.max(longest, sum);
        }
        if (longest < bestLongest) {
            bestLongest = longest;
            bestGangs = gangs.clone();
        }
    }

    int lash(int g) {
        if (g < 1 || g > 4) {
            return NONE;
        }
        bestLongest = Integer.MAX_VALUE;
        deal(g, 0, new int[5]);
        return bestLongest;
    }

    int gang(int g, int bay) {
        return lash(g) == NONE || !hasBay(bay) ? NONE : bestGangs[bay];
    }

    int best(int box) {
        if (!has(box) || boxes.get(box).where != 0) {
            return NONE;
        }
        int best = -2;
        int rules = 0;
        int overs = 0;
        for (int bay = 0; bay < told.bays; bay++) {
            for (int row = 0; row < 4; row++) {
                if (load(box, bay, row) < 0) {
                    continue;
                }
                int r = brokenOf(box);
                int o = overstows(NONE);
                toAway(box);
                if (best == -2 || r < rules || r == rules && o < overs) {
                    best = 10 * bay + row;
                    rules = r;
                    overs = o;
                }
            }
        }
        return best;
    }

    int bestTwo(int box, int other) {
        if (!has(box) || !has(other) || box == other || boxes.get(box).where != 0 || boxes.get(other).where != 0) {
            return NONE;
        }
        int best = -2;
        int least = 0;
        for (int a = 0; a < told.bays * 4; a++) {
            if (load(box, a / 4, a % 4) < 0) {
                continue;
            }
            int rules = brokenOf(box);
            for (int b = 0; b < told.bays * 4; b++) {
                if (load(other, b / 4, b % 4) < 0) {
                    continue;
                }
                int sum = rules + brokenOf(other) + overstows(NONE);
                toAway(other);
                if (best == -2 || sum < least) {
                    least = sum;
                    best = a / 4 * 1000 + a % 4 * 100 + b / 4 * 10 + b % 4;
                }
            }
            toAway(box);
        }
        return best;
    }

    int count(int what) {
        int aboard = 0;
        int yard = 0;
        int lying = 0;
        int done = 0;
        for (Box b : boxes) {
            aboard += b.where == 1 ? 1 : 0;
            yard += b.where == 2 ? 1 : 0;
        }
        for (int bay = 0; bay < 5; bay++) {
            lying |= covered[bay] ? 1 << bay : 0;
        }
        for (Job j : jobs) {
            done += j.ended == -100 ? 0 : 1;
        }
        int[] all = {told.bays, told.pairs.size(), told.places.size(), boxes.size(), aboard, yard, lorries.size(),
            facts.size(), tape.length(), lying, told.list, told.trim, told.bend, told.lift, jobs.size(), done, tick,
            books.get(0).size(), books.get(1).size()};
        return what >= 0 && what < all.length ? all[what] : NONE;
    }
}
