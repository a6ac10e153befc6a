import java.util.Arrays;

/** A quay: a ship worked by two cranes, a yard dug for lorries, and what is known of its boxes. */
public final class BoxQuay {
    public static final int NONE = -1;

    private static final int TOO_HEAVY = -2;
    private static final int NOT_BORNE = -3;
    private static final int NO_ROOM = -2;
    private static final int TOO_MANY = -3;
    private static final int NOTHING = -2;
    private static final int BAY_GONE = -3;
    private static final int NOT_YET = -100;
    private static final int NO_NUMBER = -1000000;

    private static final int ALL_BAYS = 5;
    private static final int ROWS = 4;
    private static final int TIERS = 4;
    private static final int DECK = 2;
    private static final int STACKS = 4;
    private static final int STACK_ROOM = 4;
    private static final int MOST_BOXES = 30;
    private static final int PORTS = 5;
    private static final int SORTS = 6;
    private static final int MOST_WEIGHT = 40;
    private static final int HOLDERS = 6;
    private static final int MOST_READ = 99999;
    private static final int LAST_TICK = 9999;
    private static final int MOST_GANGS = 4;
    private static final int LIFT_BASE = 21;
    private static final int MOST_WORK = 200;
    private static final int LONGEST_SHIFT = 500;
    private static final int VERY_MANY = 1000000;

    private static final int AWAY = 0;
    private static final int ABOARD = 1;
    private static final int IN_YARD = 2;

    private final Tokens tape;
    private final Reader reader;
    private final Boxes boxes;
    private final Yard yard;
    private final Ship ship;
    private final Stow stow;
    private final Facts facts;
    private final Work work;
    private final Books books;
    private Terms draft;

    public BoxQuay() {
        tape = new Tokens();
        reader = new Reader(tape);
        boxes = new Boxes();
        yard = new Yard(boxes);
        ship = new Ship(boxes, yard, new Terms());
        stow = new Stow(boxes, ship);
        facts = new Facts(boxes);
        work = new Work(ship);
        books = new Books();
        draft = new Terms();
    }

    // ---- texts ----

    public int feed(int a, int b, int c, int d, int e) {
        if (!tape.hasRoom(20)) {
            return NONE;
        }
        tape.append(a);
        tape.append(b);
        tape.append(c);
        tape.append(d);
        tape.append(e);
        return tape.size;
    }

    public int back(int n) {
        if (n < 0 || n > tape.size) {
            return NONE;
        }
        tape.size -= n;
        return tape.size;
    }

    public int read() {
        int fault = reader.parse(draft);
        if (fault != 0) {
            return fault;
        }
        if (ship.standsBeyond(draft.bays)) {
            return BAY_GONE;
        }
        Terms before = ship.terms;
        ship.terms = draft;
        draft = before;
        work.beginAnew();
        return 0;
    }

    public int place() {
        return reader.place;
    }

    // ---- boxes, ship and yard ----

    public int box(int weight, int port, int sort) {
        if (weight < 1 || weight > MOST_WEIGHT || !within(port, PORTS) || !within(sort, SORTS)) {
            return NONE;
        }
        return boxes.make(weight, port, sort);
    }

    public boolean stuck(int box, boolean is) {
        if (!boxes.has(box)) {
            return false;
        }
        boxes.stuck[box] = is;
        return true;
    }

    public boolean cover(int bay, boolean on) {
        if (!ship.hasBay(bay) || ship.isCovered(bay) == on) {
            return false;
        }
        if (!on && ship.isDeckUsed(bay)) {
            return false;
        }
        ship.covers ^= 1 << bay;
        return true;
    }

    public int store(int box, int stack) {
        if (!boxes.isAway(box) || !within(stack, STACKS) || yard.room(stack) < 1) {
            return NONE;
        }
        return yard.put(box, stack);
    }

    public int fetch(int stack) {
        if (!within(stack, STACKS) || yard.high[stack] == 0) {
            return NONE;
        }
        int box = yard.highest(stack);
        if (facts.isStopped(box, facts.count)) {
            return -2;
        }
        yard.takeHighest(stack);
        return box;
    }

    public int load(int box, int bay, int row) {
        return ship.loading(box, bay, row);
    }

    public int unload(int bay, int row, int stack) {
        return ship.unloading(bay, row, stack);
    }

    public int of(int box, int what) {
        if (!boxes.has(box)) {
            return NONE;
        }
        switch (what) {
            case 0: return boxes.weight[box];
            case 1: return boxes.port[box];
            case 2: return boxes.sort[box];
            case 3: return boxes.stuck[box] ? 1 : 0;
            case 4: return boxes.where[box];
            case 5: return boxes.bay[box];
            case 6: return boxes.row[box];
            case 7: return boxes.tier[box];
            default: return NONE;
        }
    }

    public int at(int bay, int row, int tier) {
        if (!ship.hasPlace(bay, row) || !within(tier, TIERS)) {
            return NONE;
        }
        return ship.cell[Ship.index(bay, row, tier)];
    }

    public int ship(int what) {
        switch (what) {
            case 0: return ship.list;
            case 1: return ship.trimWith(0, 0);
            case 2: return ship.bendWith(0, 0);
            case 3: return ship.weight;
            case 4: return ship.isBorneWith(0, 0, 0) ? 1 : 0;
            default: return NO_NUMBER;
        }
    }

    public int would(int box, int bay, int row, int what) {
        if (!boxes.isAshore(box) || !ship.hasPlace(bay, row)) {
            return NO_NUMBER;
        }
        int more = boxes.weight[box];
        switch (what) {
            case 0: return ship.listWith(row, more);
            case 1: return ship.trimWith(bay, more);
            case 2: return ship.bendWith(bay, more);
            default: return NO_NUMBER;
        }
    }

    // ---- rules ----

    public int pairs(int rule) {
        return within(rule, ship.terms.pairs) ? stow.brokenPairs(rule) : NONE;
    }

    public int pair(int rule, int i) {
        return within(rule, ship.terms.pairs) && i >= 0 ? stow.brokenPair(rule, i) : NONE;
    }

    public int places(int rule) {
        return within(rule, ship.terms.places) ? stow.brokenPlaces(rule) : NONE;
    }

    public int breaks(int box, int bay, int row) {
        if (!boxes.isAshore(box) || !ship.hasPlace(bay, row)) {
            return NONE;
        }
        int tier = ship.freeTier(bay, row);
        return tier == NONE ? NONE : stow.brokenBy(box, Ship.index(bay, row, tier));
    }

    // ---- what stands above what ----

    public int above(int box) {
        return boxes.isAboard(box) ? ship.standingAbove(box) : NONE;
    }

    public int overstows(int port) {
        if (port == NONE) {
            return ship.allOverstows();
        }
        if (!within(port, PORTS)) {
            return NOTHING;
        }
        int n = 0;
        for (int box = 0; box < boxes.count; box++) {
            if (ship.overstowsPort(box, port)) {
                n++;
            }
        }
        return n;
    }

    public int overstow(int port, int i) {
        if (!within(port, PORTS) || i < 0) {
            return NONE;
        }
        int left = i;
        for (int box = 0; box < boxes.count; box++) {
            if (ship.overstowsPort(box, port)) {
                if (left == 0) {
                    return box;
                }
                left--;
            }
        }
        return NONE;
    }

    public int covers(int port) {
        if (!within(port, PORTS)) {
            return NONE;
        }
        int bits = 0;
        for (int bay = 0; bay < ship.terms.bays; bay++) {
            if (ship.isDeckUsed(bay) && (ship.portsInHolds(bay) >> port & 1) == 1) {
                bits |= 1 << bay;
            }
        }
        return bits;
    }

    // ---- two cranes ----

    public int ticks(int lifts, int s) {
        if (!areLifts(lifts) || s < 0 || s > ship.terms.bays) {
            return NONE;
        }
        return longerTicks(lifts, s);
    }

    public int split(int lifts) {
        if (!areLifts(lifts)) {
            return NONE;
        }
        int best = 0;
        int least = longerTicks(lifts, 0);
        for (int s = 1; s <= ship.terms.bays; s++) {
            int ticks = longerTicks(lifts, s);
            if (ticks < least) {
                least = ticks;
                best = s;
            }
        }
        return best;
    }

    private boolean areLifts(int lifts) {
        int beyond = 1;
        for (int bay = 0; bay < ship.terms.bays; bay++) {
            beyond *= LIFT_BASE;
        }
        return lifts >= 0 && lifts < beyond;
    }

    private int longerTicks(int lifts, int s) {
        int last = ship.terms.bays - 1;
        int rest = lifts;
        int liftsA = 0;
        int liftsB = 0;
        int farA = 0;
        int farB = last;
        for (int bay = 0; bay <= last; bay++) {
            int here = rest % LIFT_BASE;
            rest /= LIFT_BASE;
            if (bay < s) {
                liftsA += here;
                farA = here > 0 ? bay : farA;
            } else {
                farB = here > 0 && liftsB == 0 ? bay : farB;
                liftsB += here;
            }
        }
        return Math.max(2 * liftsA + farA, 2 * liftsB + last - farB);
    }

    // ---- lorries ----

    public int lorry(int box) {
        return boxes.has(box) && boxes.where[box] == IN_YARD ? yard.addLorry(box) : NONE;
    }

    public int clear() {
        int gone = yard.lorries;
        yard.lorries = 0;
        return gone;
    }

    public int digs() {
        return yard.digByRule();
    }

    public int dig(int i) {
        int made = yard.digByRule();
        return within(i, made) ? yard.ruleDig[i] : NONE;
    }

    public int least() {
        return yard.digLeast();
    }

    public int leastDig(int i) {
        int made = yard.digLeast();
        return within(i, made) ? yard.leastDig[i] : NONE;
    }

    public int blocked() {
        return yard.countBlockers();
    }

    // ---- facts ----

    public int sight(int box, int holder) {
        if (!boxes.has(box) || !within(holder, HOLDERS)) {
            return NONE;
        }
        return facts.note(Facts.SIGHT, box, holder);
    }

    public int customs(int box, boolean is) {
        if (!boxes.has(box)) {
            return NONE;
        }
        return facts.note(is ? Facts.STOP : Facts.FREE, box, 0);
    }

    public int reading(int list) {
        if (list < -MOST_READ || list > MOST_READ) {
            return NONE;
        }
        return facts.note(Facts.READING, NONE, list);
    }

    public int annul(int fact) {
        if (!within(fact, facts.count) || facts.kind[fact] == Facts.VOID) {
            return NONE;
        }
        return facts.note(Facts.VOID, NONE, fact);
    }

    public int last(int box, int n) {
        return boxes.has(box) && facts.canKnow(n) ? facts.lastHolder(box, n) : NONE;
    }

    public int path(int box, int n, int i) {
        return boxes.has(box) && facts.canKnow(n) && i >= 0 ? facts.holderOnWay(box, n, i) : NONE;
    }

    public int stopped(int box, int n) {
        if (!boxes.has(box) || !facts.canKnow(n)) {
            return NONE;
        }
        return facts.isStopped(box, n) ? 1 : 0;
    }

    public int agrees(int n) {
        if (!facts.canKnow(n)) {
            return NONE;
        }
        facts.gather(n);
        return facts.areAllAsTold() ? 1 : 0;
    }

    public int weighs(int box, int n) {
        if (!boxes.has(box) || !facts.canKnow(n)) {
            return NONE;
        }
        facts.gather(n);
        return facts.areAllAsTold() ? boxes.weight[box] : facts.otherWeight(box);
    }

    public int suspects(int n) {
        if (!facts.canKnow(n)) {
            return NONE;
        }
        facts.gather(n);
        int bits = 0;
        for (int box = 0; box < boxes.count; box++) {
            if (facts.otherWeight(box) > 0) {
                bits |= 1 << box;
            }
        }
        return bits;
    }

    // ---- work ----

    public int jobLoad(int box, int bay, int row) {
        return boxes.has(box) && ship.hasPlace(bay, row) ? work.addJob(box, bay, row, NONE) : NONE;
    }

    public int jobUnload(int bay, int row, int stack) {
        return ship.hasPlace(bay, row) && Yard.isGoal(stack) ? work.addJob(NONE, bay, row, stack) : NONE;
    }

    public int work(int n) {
        return n < 0 || n > MOST_WORK ? NONE : work.pass(n);
    }

    public int job(int job, int what) {
        return within(job, work.jobs) ? work.tellJob(job, what) : NOT_YET;
    }

    public int crane(int crane, int what) {
        return within(crane, 2) ? work.tellCrane(crane, what) : NONE;
    }

    public boolean wind(int a, int b) {
        if (a < 0 || b < a || b > LAST_TICK) {
            return false;
        }
        work.windFrom = a;
        work.windTo = b;
        return true;
    }

    public boolean shifts(int s, int r) {
        if (s < 0 || s > LONGEST_SHIFT || r < 0 || r > LONGEST_SHIFT) {
            return false;
        }
        work.shift = s;
        work.rest = r;
        return true;
    }

    // ---- tally books ----

    public int tally(int book, int box, boolean on, int tick) {
        if (!within(book, 2) || !boxes.has(box) || tick < 0 || tick > LAST_TICK) {
            return NONE;
        }
        return books.write(book, box, on, tick);
    }

    public int mate(int row, int d) {
        if (!within(row, books.size[0]) || d < 0 || d > LAST_TICK) {
            return NONE;
        }
        books.join(d);
        return books.mateOf[row] == NONE ? NOTHING : books.mateOf[row];
    }

    public int alone(int book, int d) {
        if (!within(book, 2) || d < 0 || d > LAST_TICK) {
            return NONE;
        }
        return books.size[book] - books.join(d);
    }

    public int odd(int book) {
        if (!within(book, 2)) {
            return NONE;
        }
        int n = 0;
        for (int box = 0; box < boxes.count; box++) {
            int surplus = books.surplusOn(book, box);
            if (surplus != 0 && surplus != 1) {
                n++;
            }
        }
        return n;
    }

    // ---- lashing, best places ----

    public int lash(int g) {
        return isGangs(g) ? stow.longestTurn(stow.shareOut(g), g) : NONE;
    }

    public int gang(int g, int bay) {
        return isGangs(g) && ship.hasBay(bay) ? stow.gangOf(stow.shareOut(g), g, bay) : NONE;
    }

    public int best(int box) {
        return boxes.isAway(box) ? stow.bestPlace(box) : NONE;
    }

    public int bestTwo(int box, int other) {
        if (!boxes.isAway(box) || !boxes.isAway(other) || box == other) {
            return NONE;
        }
        stow.countLone(other);
        return stow.bestPlaces(box, other);
    }

    public int count(int what) {
        Terms terms = ship.terms;
        switch (what) {
            case 0: return terms.bays;
            case 1: return terms.pairs;
            case 2: return terms.places;
            case 3: return boxes.count;
            case 4: return boxes.howMany(ABOARD);
            case 5: return boxes.howMany(IN_YARD);
            case 6: return yard.lorries;
            case 7: return facts.count;
            case 8: return tape.size;
            case 9: return ship.covers;
            case 10: return terms.list;
            case 11: return terms.trim;
            case 12: return terms.bend;
            case 13: return terms.lift;
            case 14: return work.jobs;
            case 15: return work.doneJobs();
            case 16: return work.tick;
            case 17: return books.size[0];
            case 18: return books.size[1];
            default: return NONE;
        }
    }

    private static boolean isGangs(int g) {
        return g >= 1 && g <= MOST_GANGS;
    }

    private static boolean within(int number, int beyond) {
        return number >= 0 && number < beyond;
    }

    // ---- the tape and its tokens ----

    /** The tape of bytes, and the token of it that is looked at. */
    private static final class Tokens {
        static final int MOST_BYTES = 2000;
        static final int LONGEST_NAME = 8;
        static final int LONGEST_INT = 4;

        // The kind of a word is its number in this line.
        static final String WORDS = "bays list trim bend lift plug pair place if or and not sort weight port bay row tier plugged osort oweight oport obay orow otier ";
        static final int BAYS = 0;
        static final int LIST = 1;
        static final int TRIM = 2;
        static final int BEND = 3;
        static final int LIFT = 4;
        static final int PLUG = 5;
        static final int PAIR = 6;
        static final int PLACE = 7;
        static final int IF = 8;
        static final int OR = 9;
        static final int AND = 10;
        static final int NOT = 11;
        static final int FIRST_VAR = 12;
        static final int LAST_VAR = 24;
        static final int INT = 25;
        static final int NAME = 26;
        static final int SEMICOLON = 27;
        static final int PLUS = 28;
        static final int MINUS = 29;
        static final int TIMES = 30;
        static final int EQUAL = 31;
        static final int UNLIKE = 32;
        static final int BELOW = 33;
        static final int UP_TO = 34;
        static final int OPEN = 35;
        static final int CLOSE = 36;
        static final int END = 37;
        static final int NO_TOKEN = 38;

        final byte[] tape = new byte[MOST_BYTES];
        int size;
        int next;
        int kind;
        int start;
        int number;
        long name;

        boolean hasRoom(int bytes) {
            return size + bytes <= MOST_BYTES;
        }

        void append(int word) {
            for (int shift = 24; shift >= 0 && size < MOST_BYTES; shift -= 8) {
                tape[size] = (byte) (word >> shift);
                size++;
            }
        }

        void advance() {
            while (next < size && isBlank(tape[next])) {
                next++;
            }
            start = next;
            if (next >= size) {
                kind = END;
            } else if (isLetter(tape[next])) {
                takeWord();
            } else if (isDigit(tape[next])) {
                takeInt();
            } else {
                takeSign();
            }
        }

        private void takeWord() {
            name = 0;
            while (next < size && isLetter(tape[next])) {
                if (next - start < LONGEST_NAME) {
                    name = withLetter(name, tape[next]);
                }
                next++;
            }
            kind = next - start > LONGEST_NAME ? NO_TOKEN : kindOf(name);
        }

        private void takeInt() {
            number = 0;
            while (next < size && isDigit(tape[next])) {
                if (next - start < LONGEST_INT) {
                    number = number * 10 + tape[next] - '0';
                }
                next++;
            }
            kind = next - start > LONGEST_INT ? NO_TOKEN : INT;
        }

        private void takeSign() {
            int sign = tape[next];
            next++;
            switch (sign) {
                case ';': kind = SEMICOLON; break;
                case '+': kind = PLUS; break;
                case '-': kind = MINUS; break;
                case '*': kind = TIMES; break;
                case '(': kind = OPEN; break;
                case ')': kind = CLOSE; break;
                case '=': kind = takeEquals() ? EQUAL : NO_TOKEN; break;
                case '!': kind = takeEquals() ? UNLIKE : NO_TOKEN; break;
                case '<': kind = takeEquals() ? UP_TO : BELOW; break;
                default: kind = NO_TOKEN; break;
            }
        }

        private boolean takeEquals() {
            if (next >= size || tape[next] != '=') {
                return false;
            }
            next++;
            return true;
        }

        private static int kindOf(long name) {
            int kind = 0;
            long word = 0;
            for (int i = 0; i < WORDS.length(); i++) {
                char letter = WORDS.charAt(i);
                if (letter != ' ') {
                    word = withLetter(word, letter);
                } else if (word == name) {
                    return kind;
                } else {
                    kind++;
                    word = 0;
                }
            }
            return NAME;
        }

        // Eight letters to the base 27 fit a long, so names are compared as numbers.
        private static long withLetter(long word, int letter) {
            return word * 27 + (letter - 'a' + 1);
        }

        private static boolean isBlank(int sign) {
            return sign == 32 || sign == 9 || sign == 10 || sign == 13;
        }

        private static boolean isLetter(int sign) {
            return sign >= 'a' && sign <= 'z';
        }

        private static boolean isDigit(int sign) {
            return sign >= '0' && sign <= '9';
        }

        static boolean isVar(int kind) {
            return kind >= FIRST_VAR && kind <= LAST_VAR;
        }

        static boolean isComparison(int kind) {
            return kind >= EQUAL && kind <= UP_TO;
        }
    }

    // ---- reading a text ----

    /** Reads the tape token by token; what it tells goes to a draft, which counts only without a fault. */
    private static final class Reader {
        static final int SYNTAX = 1;
        static final int ROOM = 2;
        static final int TWICE = 3;
        static final int WRONG = 5;
        static final int MOST_TOKENS = 400;
        static final int DEEPEST = 6;

        // What is awaited.
        static final int TELL = 0;
        static final int NUMBER = 1;
        static final int PLUG_BAY = 2;
        static final int PLUG_ROW = 3;
        static final int STOP = 4;
        static final int TITLE = 5;
        static final int CONDITION = 6;
        static final int LITERAL = 7;
        static final int UNIT = 8;
        static final int MORE = 9;

        final Tokens tokens;
        final int[] waiting = new int[MOST_TOKENS];
        final long[] titles = new long[2 * Terms.MOST_RULES];
        Terms terms;
        int place = NONE;
        private int awaited;
        private int told;
        private int plugBay;
        private int depth;
        private boolean rightSide;
        private int waits;
        private int named;
        private int laterFault;
        private int laterPlace;

        Reader(Tokens tokens) {
            this.tokens = tokens;
        }

        /** The number of the text's fault, or 0; the tape is empty then. */
        int parse(Terms draft) {
            draft.forget();
            terms = draft;
            awaited = TELL;
            depth = 0;
            waits = 0;
            named = 0;
            laterFault = 0;
            laterPlace = NONE;
            tokens.next = 0;
            int fault = readTokens();
            place = fault == 0 ? laterPlace : tokens.start;
            tokens.size = 0;
            if (fault == 0) {
                draft.measureRules();
            }
            return fault == 0 ? laterFault : fault;
        }

        private int readTokens() {
            for (int n = 0; n <= MOST_TOKENS; n++) {
                tokens.advance();
                int kind = tokens.kind;
                if (kind == Tokens.END) {
                    return awaited == TELL ? 0 : SYNTAX;
                }
                int then = follow(kind);
                if (then == NONE) {
                    return SYNTAX;
                }
                if (n == MOST_TOKENS || lacksRoom(kind)) {
                    return ROOM;
                }
                take(kind);
                awaited = then;
            }
            return ROOM;
        }

        /** What is awaited behind a token of this kind; NONE: no text goes on with it. */
        private int follow(int kind) {
            switch (awaited) {
                case TELL: return followTell(kind);
                case NUMBER: return kind == Tokens.INT ? STOP : NONE;
                case PLUG_BAY: return kind == Tokens.INT ? PLUG_ROW : NONE;
                case PLUG_ROW: return kind == Tokens.INT ? STOP : NONE;
                case STOP: return kind == Tokens.SEMICOLON ? TELL : NONE;
                case TITLE: return kind == Tokens.NAME ? CONDITION : NONE;
                case CONDITION: return kind == Tokens.IF ? LITERAL : NONE;
                case LITERAL: return kind == Tokens.NOT ? LITERAL : followUnit(kind);
                case UNIT: return followUnit(kind);
                default: return followMore(kind);
            }
        }

        private static int followTell(int kind) {
            if (kind >= Tokens.BAYS && kind <= Tokens.LIFT) {
                return NUMBER;
            }
            if (kind == Tokens.PLUG) {
                return PLUG_BAY;
            }
            return kind == Tokens.PAIR || kind == Tokens.PLACE ? TITLE : NONE;
        }

        private static int followUnit(int kind) {
            if (kind == Tokens.INT || Tokens.isVar(kind)) {
                return MORE;
            }
            return kind == Tokens.OPEN ? UNIT : NONE;
        }

        private int followMore(int kind) {
            if (kind >= Tokens.PLUS && kind <= Tokens.TIMES) {
                return UNIT;
            }
            if (depth > 0) {
                return kind == Tokens.CLOSE ? MORE : NONE;
            }
            if (!rightSide) {
                return Tokens.isComparison(kind) ? UNIT : NONE;
            }
            if (kind == Tokens.AND || kind == Tokens.OR) {
                return LITERAL;
            }
            return kind == Tokens.SEMICOLON ? TELL : NONE;
        }

        private boolean lacksRoom(int kind) {
            return kind == Tokens.OPEN && depth == DEEPEST
                    || kind == Tokens.PAIR && terms.pairs == Terms.MOST_RULES
                    || kind == Tokens.PLACE && terms.places == Terms.MOST_RULES;
        }

        private void take(int kind) {
            switch (awaited) {
                case TELL: told = kind; break;
                case NUMBER: takeNumber(tokens.number); break;
                case PLUG_BAY: takePlugBay(tokens.number); break;
                case PLUG_ROW: takePlugRow(tokens.number); break;
                case TITLE: takeTitle(tokens.name); break;
                case CONDITION: beginCondition(); break;
                case LITERAL: takeUnit(kind); break;
                case UNIT: takeUnit(kind); break;
                case MORE: takeMore(kind); break;
                default: break;
            }
        }

        private void takeNumber(int number) {
            switch (told) {
                case Tokens.BAYS: takeBays(number); break;
                case Tokens.LIST: terms.list = number; break;
                case Tokens.TRIM: terms.trim = number; break;
                case Tokens.BEND: terms.bend = number; break;
                default: takeLift(number); break;
            }
        }

        private void takeBays(int number) {
            if (number < 2 || number > ALL_BAYS) {
                noteLater(WRONG);
            } else {
                terms.bays = number;
            }
        }

        private void takeLift(int number) {
            if (number == 0) {
                noteLater(WRONG);
            } else {
                terms.lift = number;
            }
        }

        private void takePlugBay(int number) {
            plugBay = number;
            if (number >= ALL_BAYS) {
                noteLater(WRONG);
            }
        }

        private void takePlugRow(int number) {
            if (number >= ROWS) {
                noteLater(WRONG);
            } else if (plugBay < ALL_BAYS) {
                terms.plugs |= 1 << plugBay * ROWS + number;
            }
        }

        private void takeTitle(long name) {
            for (int i = 0; i < named; i++) {
                if (titles[i] == name) {
                    noteLater(TWICE);
                    break;
                }
            }
            if (named < titles.length) {
                titles[named] = name;
                named++;
            }
        }

        // These faults count only in a text without another one, and the first of them alone.
        private void noteLater(int fault) {
            if (laterFault == 0) {
                laterFault = fault;
                laterPlace = tokens.start;
            }
        }

        private void beginCondition() {
            rightSide = false;
            terms.beginRule(told == Tokens.PAIR);
        }

        private void takeUnit(int kind) {
            if (kind == Tokens.INT) {
                terms.emit(tokens.number);
            } else if (Tokens.isVar(kind)) {
                terms.emit(~kind);
            } else {
                depth += kind == Tokens.OPEN ? 1 : 0;
                letWait(kind);
            }
        }

        private void takeMore(int kind) {
            if (kind == Tokens.CLOSE) {
                emitWaiting(1);
                depth--;
                // Only the OPEN that belongs to it is left on top.
                waits -= waits > 0 ? 1 : 0;
            } else if (kind == Tokens.SEMICOLON) {
                emitWaiting(1);
                terms.endRule(told == Tokens.PAIR);
            } else {
                emitWaiting(strength(kind));
                letWait(kind);
                rightSide = Tokens.isComparison(kind) || rightSide && !isJoint(kind);
            }
        }

        private void letWait(int kind) {
            if (waits < waiting.length) {
                waiting[waits] = kind;
                waits++;
            }
        }

        private void emitWaiting(int weakest) {
            while (waits > 0 && strength(waiting[waits - 1]) >= weakest) {
                waits--;
                terms.emit(~waiting[waits]);
            }
        }

        private static boolean isJoint(int kind) {
            return kind == Tokens.AND || kind == Tokens.OR;
        }

        private static int strength(int kind) {
            switch (kind) {
                case Tokens.OPEN: return 0;
                case Tokens.OR: return 1;
                case Tokens.AND: return 2;
                case Tokens.NOT: return 3;
                case Tokens.PLUS: return 5;
                case Tokens.MINUS: return 5;
                case Tokens.TIMES: return 6;
                default: return 4;
            }
        }
    }

    // ---- what a text tells ----

    /** What the text in force tells; its conditions are kept in postfix order. */
    private static final class Terms {
        static final int MOST_RULES = 8;
        static final int VARS = 13;
        static final int PLUGGED = 6;
        static final int OTHER = 7;
        // or, and, a comparison, and a sum and a product on each of seven levels wait for one unit more.
        static final int DEEPEST_STACK = 18;
        static final long TOO_GREAT = 1L << 61;

        int bays;
        int list;
        int trim;
        int bend;
        int lift;
        int plugs;
        int pairs;
        int places;
        final int[] code = new int[Reader.MOST_TOKENS];
        final int[] start = new int[2 * MOST_RULES];
        final int[] end = new int[2 * MOST_RULES];
        final int[] limbs = new int[2 * MOST_RULES];
        final int[] vars = new int[VARS];
        final long[] stack = new long[DEEPEST_STACK];
        private int used;
        private Wide wide;

        Terms() {
            forget();
        }

        void forget() {
            bays = 3;
            list = 9999;
            trim = 9999;
            bend = 9999;
            lift = 99;
            plugs = 0;
            pairs = 0;
            places = 0;
            used = 0;
        }

        int slot(boolean isPair) {
            return isPair ? Math.min(pairs, MOST_RULES - 1) : MOST_RULES + Math.min(places, MOST_RULES - 1);
        }

        void beginRule(boolean isPair) {
            start[slot(isPair)] = used;
        }

        void emit(int item) {
            if (used < code.length) {
                code[used] = item;
                used++;
            }
        }

        void endRule(boolean isPair) {
            end[slot(isPair)] = used;
            pairs += isPair ? 1 : 0;
            places += isPair ? 0 : 1;
        }

        void measureRules() {
            for (int rule = 0; rule < pairs; rule++) {
                measure(rule);
            }
            for (int rule = 0; rule < places; rule++) {
                measure(MOST_RULES + rule);
            }
        }

        /** Finds how great a rule's sums can be: those that a long can't hold are worked out in limbs. */
        private void measure(int slot) {
            int top = 0;
            int operands = 0;
            long greatest = 0;
            for (int i = start[slot]; i < end[slot]; i++) {
                int item = code[i];
                if (isOperand(item) && top < DEEPEST_STACK) {
                    stack[top] = item >= 0 ? item : MOST_WEIGHT;
                    top++;
                    operands++;
                } else if (item != ~Tokens.NOT && top > 1) {
                    top--;
                    stack[top - 1] = bound(~item, stack[top - 1], stack[top]);
                    greatest = Math.max(greatest, stack[top - 1]);
                }
            }
            limbs[slot] = greatest >= TOO_GREAT ? Wide.limbsFor(operands) : 0;
            // Made only when a text needs it: it takes more room than all else of the text.
            if (limbs[slot] > 0 && wide == null) {
                wide = new Wide();
            }
        }

        private static long bound(int kind, long a, long b) {
            if (kind == Tokens.PLUS || kind == Tokens.MINUS) {
                return Math.min(a + b, TOO_GREAT);
            }
            if (kind == Tokens.TIMES) {
                return a > 0 && b > TOO_GREAT / a ? TOO_GREAT : a * b;
            }
            return 1;
        }

        static boolean isOperand(int item) {
            return item >= 0 || Tokens.isVar(~item);
        }

        int valueOf(int item) {
            return item >= 0 ? item : vars[~item - Tokens.FIRST_VAR];
        }

        /** How many of these rules hold of what vars tell. */
        int countHeld(int slot, int beyond) {
            int n = 0;
            for (int i = slot; i < beyond; i++) {
                boolean so = limbs[i] > 0 && wide != null ? wide.holds(this, i) : holds(i);
                n += so ? 1 : 0;
            }
            return n;
        }

        private boolean holds(int slot) {
            int top = 0;
            for (int i = start[slot]; i < end[slot]; i++) {
                int item = code[i];
                if (isOperand(item) && top < DEEPEST_STACK) {
                    stack[top] = valueOf(item);
                    top++;
                } else if (item == ~Tokens.NOT && top > 0) {
                    stack[top - 1] = 1 - stack[top - 1];
                } else if (top > 1) {
                    top--;
                    stack[top - 1] = joined(~item, stack[top - 1], stack[top]);
                }
            }
            return stack[0] == 1;
        }

        private static long joined(int kind, long a, long b) {
            switch (kind) {
                case Tokens.PLUS: return a + b;
                case Tokens.MINUS: return a - b;
                case Tokens.TIMES: return a * b;
                case Tokens.EQUAL: return a == b ? 1 : 0;
                case Tokens.UNLIKE: return a != b ? 1 : 0;
                case Tokens.BELOW: return a < b ? 1 : 0;
                case Tokens.UP_TO: return a <= b ? 1 : 0;
                case Tokens.AND: return a & b;
                default: return a | b;
            }
        }
    }

    /** Sums and products that a long can't hold: numbers as limbs to a base, each limb with a sign of its own. */
    private static final class Wide {
        static final int BASE = 100000000;
        // A rule has 198 operands at most, each below the root of the base, so that no limb beyond is ever needed.
        static final int MOST_LIMBS = 101;

        private final int[][] row = new int[Terms.DEEPEST_STACK][MOST_LIMBS];
        private final int[] product = new int[MOST_LIMBS];
        private int limbs;

        static int limbsFor(int operands) {
            return Math.min(MOST_LIMBS, operands / 2 + 2);
        }

        // What is true or not stands in the lowest limb alone: nothing is reckoned with it.
        boolean holds(Terms terms, int slot) {
            limbs = terms.limbs[slot];
            int top = 0;
            for (int i = terms.start[slot]; i < terms.end[slot]; i++) {
                int item = terms.code[i];
                if (Terms.isOperand(item) && top < row.length) {
                    write(row[top], terms.valueOf(item));
                    top++;
                } else if (item == ~Tokens.NOT && top > 0) {
                    row[top - 1][0] = 1 - row[top - 1][0];
                } else if (top > 1) {
                    top--;
                    join(~item, row[top - 1], row[top]);
                }
            }
            return row[0][0] == 1;
        }

        private void write(int[] a, int value) {
            for (int i = 0; i < limbs; i++) {
                a[i] = 0;
            }
            a[0] = value;
        }

        private void join(int kind, int[] a, int[] b) {
            switch (kind) {
                case Tokens.PLUS: add(a, b); break;
                case Tokens.MINUS: subtract(a, b); break;
                case Tokens.TIMES: multiply(a, b); break;
                case Tokens.AND: a[0] &= b[0]; break;
                case Tokens.OR: a[0] |= b[0]; break;
                default: compare(kind, a, b); break;
            }
        }

        private void add(int[] a, int[] b) {
            int carry = 0;
            for (int i = 0; i < limbs; i++) {
                int sum = a[i] + b[i] + carry;
                carry = sum / BASE;
                a[i] = sum % BASE;
            }
        }

        private void subtract(int[] a, int[] b) {
            int carry = 0;
            for (int i = 0; i < limbs; i++) {
                int sum = a[i] - b[i] + carry;
                carry = sum / BASE;
                a[i] = sum % BASE;
            }
        }

        private void multiply(int[] a, int[] b) {
            for (int i = 0; i < limbs; i++) {
                product[i] = 0;
            }
            for (int j = 0; j < limbs; j++) {
                long carry = 0;
                for (int i = 0; b[j] != 0 && i + j < limbs; i++) {
                    long sum = product[i + j] + (long) a[i] * b[j] + carry;
                    product[i + j] = (int) (sum % BASE);
                    carry = sum / BASE;
                }
            }
            for (int i = 0; i < limbs; i++) {
                a[i] = product[i];
            }
        }

        private void compare(int kind, int[] a, int[] b) {
            // Carried upwards so that no limb is negative, the last carry has the difference's sign.
            int carry = 0;
            boolean alike = true;
            for (int i = 0; i < limbs; i++) {
                int sum = a[i] - b[i] + carry;
                carry = sum % BASE < 0 ? sum / BASE - 1 : sum / BASE;
                alike = alike && sum == carry * BASE;
            }
            boolean below = carry < 0;
            alike = alike && carry == 0;
            boolean so = kind == Tokens.EQUAL ? alike
                    : kind == Tokens.UNLIKE ? !alike
                    : kind == Tokens.BELOW ? below : below || alike;
            a[0] = so ? 1 : 0;
        }
    }

    // ---- boxes ----

    /** The boxes: what each is, and where it stands. */
    private static final class Boxes {
        int count;
        final int[] weight = new int[MOST_BOXES];
        final int[] port = new int[MOST_BOXES];
        final int[] sort = new int[MOST_BOXES];
        final boolean[] stuck = new boolean[MOST_BOXES];
        final int[] where = new int[MOST_BOXES];
        // Aboard: bay, row, tier; in the yard: the stack as bay, the place in it as tier.
        final int[] bay = new int[MOST_BOXES];
        final int[] row = new int[MOST_BOXES];
        final int[] tier = new int[MOST_BOXES];

        int make(int itsWeight, int itsPort, int itsSort) {
            if (count >= MOST_BOXES) {
                return NONE;
            }
            weight[count] = itsWeight;
            port[count] = itsPort;
            sort[count] = itsSort;
            sendAway(count);
            count++;
            return count - 1;
        }

        void sendAway(int box) {
            stand(box, AWAY, NONE, NONE, NONE);
        }

        void stand(int box, int itsWhere, int itsBay, int itsRow, int itsTier) {
            where[box] = itsWhere;
            bay[box] = itsBay;
            row[box] = itsRow;
            tier[box] = itsTier;
        }

        boolean has(int box) {
            return box >= 0 && box < count;
        }

        boolean isAway(int box) {
            return has(box) && where[box] == AWAY;
        }

        boolean isAboard(int box) {
            return has(box) && where[box] == ABOARD;
        }

        boolean isAshore(int box) {
            return has(box) && where[box] != ABOARD;
        }

        int howMany(int there) {
            int n = 0;
            for (int box = 0; box < count; box++) {
                if (where[box] == there) {
                    n++;
                }
            }
            return n;
        }
    }

    // ---- the ship ----

    /** The ship's places, covers and balance; loading and unloading. */
    private static final class Ship {
        final Boxes boxes;
        final Yard yard;
        Terms terms;
        final int[] cell = new int[ALL_BAYS * ROWS * TIERS];
        int covers = (1 << ALL_BAYS) - 1;
        int list;
        int weight;
        private final int[] bayWeight = new int[ALL_BAYS];

        Ship(Boxes boxes, Yard yard, Terms terms) {
            this.boxes = boxes;
            this.yard = yard;
            this.terms = terms;
            Arrays.fill(cell, NONE);
        }

        static int index(int bay, int row, int tier) {
            return (bay * ROWS + row) * TIERS + tier;
        }

        static int bayOf(int index) {
            return index / (ROWS * TIERS);
        }

        static int rowOf(int index) {
            return index / TIERS % ROWS;
        }

        static int tierOf(int index) {
            return index % TIERS;
        }

        boolean hasBay(int bay) {
            return bay >= 0 && bay < terms.bays;
        }

        boolean hasPlace(int bay, int row) {
            return hasBay(bay) && row >= 0 && row < ROWS;
        }

        boolean isCovered(int bay) {
            return (covers >> bay & 1) == 1;
        }

        boolean isDeckUsed(int bay) {
            for (int row = 0; row < ROWS; row++) {
                if (cell[index(bay, row, DECK)] != NONE) {
                    return true;
                }
            }
            return false;
        }

        boolean standsBeyond(int bays) {
            for (int bay = bays; bay < ALL_BAYS; bay++) {
                if (bayWeight[bay] > 0) {
                    return true;
                }
            }
            return false;
        }

        // ---- balance

        private static int lever(int row) {
            return 2 * row - 3;
        }

        int listWith(int row, int more) {
            return list + more * lever(row);
        }

        int trimWith(int bay, int more) {
            int sum = more * (2 * bay + 1 - terms.bays);
            for (int i = 0; i < ALL_BAYS; i++) {
                sum += bayWeight[i] * (2 * i + 1 - terms.bays);
            }
            return sum;
        }

        int bendWith(int bay, int more) {
            int all = weight + more;
            int before = 0;
            int sum = 0;
            int greatest = 0;
            for (int i = 0; i < terms.bays - 1; i++) {
                before += bayWeight[i] + (i == bay ? more : 0);
                sum += terms.bays * before - (i + 1) * all;
                greatest = Math.max(greatest, Math.abs(sum));
            }
            return greatest;
        }

        boolean isBorneWith(int bay, int row, int more) {
            return Math.abs(listWith(row, more)) <= terms.list
                    && Math.abs(trimWith(bay, more)) <= terms.trim
                    && bendWith(bay, more) <= terms.bend;
        }

        private boolean isNoWorseWith(int bay, int row, int more) {
            return Math.abs(listWith(row, more)) <= Math.abs(list)
                    && Math.abs(trimWith(bay, more)) <= Math.abs(trimWith(bay, 0))
                    && bendWith(bay, more) <= bendWith(bay, 0);
        }

        private void weigh(int bay, int row, int more) {
            weight += more;
            bayWeight[bay] += more;
            list += more * lever(row);
        }

        // ---- loading and unloading

        private int lowestTier(int bay) {
            return isCovered(bay) ? DECK : 0;
        }

        /** The tier to which the next box would come as the cover lies; NONE: no room. */
        int freeTier(int bay, int row) {
            int lowest = lowestTier(bay);
            if (cell[index(bay, row, lowest)] == NONE) {
                return lowest;
            }
            return cell[index(bay, row, lowest + 1)] == NONE ? lowest + 1 : NONE;
        }

        private int highestTier(int bay, int row) {
            int lowest = lowestTier(bay);
            if (cell[index(bay, row, lowest + 1)] != NONE) {
                return lowest + 1;
            }
            return cell[index(bay, row, lowest)] != NONE ? lowest : NONE;
        }

        private boolean canBeHad(int box) {
            return boxes.isAway(box)
                    || boxes.isAshore(box) && yard.highest(boxes.bay[box]) == box;
        }

        /** The tier to which loading would bring a box, or what loading answers if it can't be done. */
        int tryLoading(int box, int bay, int row) {
            if (!hasPlace(bay, row) || !canBeHad(box)) {
                return NONE;
            }
            int tier = freeTier(bay, row);
            if (tier == NONE) {
                return NONE;
            }
            int more = boxes.weight[box];
            if (more > terms.lift) {
                return TOO_HEAVY;
            }
            return isBorneWith(bay, row, more) || isNoWorseWith(bay, row, more) ? tier : NOT_BORNE;
        }

        int loading(int box, int bay, int row) {
            int tier = tryLoading(box, bay, row);
            if (tier >= 0) {
                if (boxes.where[box] == IN_YARD) {
                    yard.takeHighest(boxes.bay[box]);
                }
                put(box, bay, row, tier);
            }
            return tier;
        }

        int unloading(int bay, int row, int stack) {
            if (!hasPlace(bay, row) || !Yard.isGoal(stack)) {
                return NONE;
            }
            int high = highestTier(bay, row);
            if (high == NONE) {
                return NONE;
            }
            int box = cell[index(bay, row, high)];
            int low = boxes.stuck[box] && high > lowestTier(bay) ? high - 1 : high;
            int lifted = high - low + 1;
            if (stack != NONE && yard.room(stack) < lifted) {
                return NONE;
            }
            int less = boxes.weight[box] + (low < high ? boxes.weight[cell[index(bay, row, low)]] : 0);
            if (less > terms.lift) {
                return TOO_HEAVY;
            }
            if (!isBorneWith(bay, row, -less) && !isNoWorseWith(bay, row, -less)) {
                return NOT_BORNE;
            }
            for (int tier = low; tier <= high; tier++) {
                land(cell[index(bay, row, tier)], stack);
            }
            return lifted;
        }

        private void land(int box, int stack) {
            remove(box);
            if (stack != NONE) {
                yard.put(box, stack);
            }
        }

        void put(int box, int bay, int row, int tier) {
            cell[index(bay, row, tier)] = box;
            weigh(bay, row, boxes.weight[box]);
            boxes.stand(box, ABOARD, bay, row, tier);
        }

        void remove(int box) {
            int bay = boxes.bay[box];
            int row = boxes.row[box];
            cell[index(bay, row, boxes.tier[box])] = NONE;
            weigh(bay, row, -boxes.weight[box]);
            boxes.sendAway(box);
        }

        // ---- above and below

        int standingAbove(int box) {
            int bay = boxes.bay[box];
            int row = boxes.row[box];
            int tier = boxes.tier[box];
            int n = tier % 2 == 0 && cell[index(bay, row, tier + 1)] != NONE ? 1 : 0;
            for (int other = 0; other < ROWS && tier < DECK; other++) {
                n += cell[index(bay, other, DECK)] != NONE ? 1 : 0;
                n += cell[index(bay, other, DECK + 1)] != NONE ? 1 : 0;
            }
            return n;
        }

        private int portAt(int index) {
            return cell[index] == NONE ? 0 : 1 << boxes.port[cell[index]];
        }

        int portsInHolds(int bay) {
            int ports = 0;
            for (int row = 0; row < ROWS; row++) {
                ports |= portAt(index(bay, row, 0)) | portAt(index(bay, row, 1));
            }
            return ports;
        }

        /** The ports sooner than its own (bits) of the boxes that a box aboard is above. */
        private int soonerBelow(int box) {
            int bay = boxes.bay[box];
            int tier = boxes.tier[box];
            int ports = tier >= DECK ? portsInHolds(bay) : 0;
            if (tier % 2 == 1) {
                ports |= portAt(index(bay, boxes.row[box], tier - 1));
            }
            return ports & (1 << boxes.port[box]) - 1;
        }

        boolean overstowsPort(int box, int port) {
            return boxes.isAboard(box) && (soonerBelow(box) >> port & 1) == 1;
        }

        int allOverstows() {
            int n = 0;
            for (int box = 0; box < boxes.count; box++) {
                if (boxes.where[box] == ABOARD) {
                    n += Integer.bitCount(soonerBelow(box));
                }
            }
            return n;
        }
    }

    // ---- rules broken, best places, lashing ----

    /** What stands well and what does not: rules broken, the best places, lashing. */
    private static final class Stow {
        final Boxes boxes;
        final Ship ship;
        // Of the second of two boxes: the rules that it would break without the first, by its place.
        private final int[] lone = new int[ALL_BAYS * ROWS * TIERS];
        private final int[] minutes = new int[ALL_BAYS];
        private final int[] load = new int[MOST_GANGS];

        Stow(Boxes boxes, Ship ship) {
            this.boxes = boxes;
            this.ship = ship;
        }

        private static int standing(Boxes boxes, int box) {
            return Ship.index(boxes.bay[box], boxes.row[box], boxes.tier[box]);
        }

        private void describe(int from, int box, int index) {
            int[] vars = ship.terms.vars;
            vars[from] = boxes.sort[box];
            vars[from + 1] = boxes.weight[box];
            vars[from + 2] = boxes.port[box];
            vars[from + 3] = Ship.bayOf(index);
            vars[from + 4] = Ship.rowOf(index);
            vars[from + 5] = Ship.tierOf(index);
        }

        private void describeFirst(int box, int index) {
            describe(0, box, index);
            ship.terms.vars[Terms.PLUGGED] = ship.terms.plugs >> index / TIERS & 1;
        }

        private void describeOther(int box, int index) {
            describe(Terms.OTHER, box, index);
        }

        private void describeAlone(int box, int index) {
            describeFirst(box, index);
            for (int i = Terms.OTHER; i < Terms.VARS; i++) {
                ship.terms.vars[i] = 0;
            }
        }

        private boolean breaksPair(int rule, int a, int b) {
            if (a == b || !boxes.isAboard(a) || !boxes.isAboard(b)) {
                return false;
            }
            describeFirst(a, standing(boxes, a));
            describeOther(b, standing(boxes, b));
            return ship.terms.countHeld(rule, rule + 1) > 0;
        }

        int brokenPairs(int rule) {
            int n = 0;
            for (int a = 0; a < boxes.count; a++) {
                for (int b = 0; b < boxes.count; b++) {
                    n += breaksPair(rule, a, b) ? 1 : 0;
                }
            }
            return n;
        }

        int brokenPair(int rule, int i) {
            int left = i;
            for (int a = 0; a < boxes.count; a++) {
                for (int b = 0; b < boxes.count; b++) {
                    if (breaksPair(rule, a, b)) {
                        if (left == 0) {
                            return 100 * a + b;
                        }
                        left--;
                    }
                }
            }
            return NONE;
        }

        int brokenPlaces(int rule) {
            int n = 0;
            int slot = Terms.MOST_RULES + rule;
            for (int box = 0; box < boxes.count; box++) {
                if (boxes.isAboard(box)) {
                    describeAlone(box, standing(boxes, box));
                    n += ship.terms.countHeld(slot, slot + 1);
                }
            }
            return n;
        }

        /** How many rules a box ashore would break at a place, alone and with all aboard. */
        int brokenBy(int box, int index) {
            describeAlone(box, index);
            int n = ship.terms.countHeld(Terms.MOST_RULES, Terms.MOST_RULES + ship.terms.places);
            for (int other = 0; other < boxes.count; other++) {
                if (boxes.isAboard(other)) {
                    n += brokenWith(box, index, other);
                }
            }
            return n;
        }

        private int brokenWith(int box, int index, int other) {
            if (ship.terms.pairs == 0) {
                return 0;
            }
            int there = standing(boxes, other);
            describeFirst(box, index);
            describeOther(other, there);
            int n = ship.terms.countHeld(0, ship.terms.pairs);
            describeFirst(other, there);
            describeOther(box, index);
            return n + ship.terms.countHeld(0, ship.terms.pairs);
        }

        private int overstowsWith(int box, int index) {
            ship.put(box, Ship.bayOf(index), Ship.rowOf(index), Ship.tierOf(index));
            int n = ship.allOverstows();
            ship.remove(box);
            return n;
        }

        int bestPlace(int box) {
            int best = NOTHING;
            int fewestRules = VERY_MANY;
            int fewestOverstows = VERY_MANY;
            for (int place = 0; place < ship.terms.bays * ROWS; place++) {
                int tier = ship.tryLoading(box, place / ROWS, place % ROWS);
                if (tier < 0) {
                    continue;
                }
                int index = place * TIERS + tier;
                int rules = brokenBy(box, index);
                int overstows = overstowsWith(box, index);
                if (rules < fewestRules || rules == fewestRules && overstows < fewestOverstows) {
                    fewestRules = rules;
                    fewestOverstows = overstows;
                    best = tens(place);
                }
            }
            return best;
        }

        /** Counts the rules that a box would break at each place to which it, or one behind another, can come. */
        void countLone(int box) {
            for (int place = 0; place < ship.terms.bays * ROWS; place++) {
                int tier = ship.freeTier(place / ROWS, place % ROWS);
                if (tier == NONE) {
                    continue;
                }
                lone[place * TIERS + tier] = brokenBy(box, place * TIERS + tier);
                if (tier % 2 == 0) {
                    lone[place * TIERS + tier + 1] = brokenBy(box, place * TIERS + tier + 1);
                }
            }
        }

        /** The best places of two boxes; countLone has told of the second one. */
        int bestPlaces(int first, int second) {
            int best = NOTHING;
            int least = VERY_MANY;
            for (int place = 0; place < ship.terms.bays * ROWS; place++) {
                int tier = ship.tryLoading(first, place / ROWS, place % ROWS);
                if (tier < 0) {
                    continue;
                }
                int rules = brokenBy(first, place * TIERS + tier);
                ship.put(first, place / ROWS, place % ROWS, tier);
                for (int then = 0; then < ship.terms.bays * ROWS; then++) {
                    int thenTier = ship.tryLoading(second, then / ROWS, then % ROWS);
                    if (thenTier < 0) {
                        continue;
                    }
                    int index = then * TIERS + thenTier;
                    int sum = rules + lone[index] + brokenWith(second, index, first) + overstowsWith(second, index);
                    if (sum < least) {
                        least = sum;
                        best = 100 * tens(place) + tens(then);
                    }
                }
                ship.remove(first);
            }
            return best;
        }

        private static int tens(int place) {
            return 10 * (place / ROWS) + place % ROWS;
        }

        // ---- lashing

        /** The first way to give the bays to g gangs, the gangs as digits, that of bay 0 the highest. */
        int shareOut(int g) {
            countMinutes();
            int ways = 1;
            for (int bay = 0; bay < ship.terms.bays; bay++) {
                ways *= g;
            }
            int best = 0;
            int least = longestTurn(0, g);
            for (int way = 1; way < ways; way++) {
                int longest = longestTurn(way, g);
                if (longest < least) {
                    least = longest;
                    best = way;
                }
            }
            return best;
        }

        private void countMinutes() {
            Arrays.fill(minutes, 0);
            for (int box = 0; box < boxes.count; box++) {
                if (boxes.where[box] == ABOARD && boxes.tier[box] >= DECK) {
                    minutes[boxes.bay[box]] += boxes.weight[box] > 20 ? 3 : 2;
                }
            }
        }

        int longestTurn(int way, int g) {
            Arrays.fill(load, 0);
            int rest = way;
            int longest = 0;
            for (int bay = ship.terms.bays - 1; bay >= 0; bay--) {
                int gang = rest % g;
                rest /= g;
                load[gang] += minutes[bay];
                longest = Math.max(longest, load[gang]);
            }
            return longest;
        }

        int gangOf(int way, int g, int bay) {
            int rest = way;
            for (int last = ship.terms.bays - 1; last > bay; last--) {
                rest /= g;
            }
            return rest % g;
        }
    }

    // ---- the yard ----

    /** The stacks, the lorries, and the digs by which these are served. */
    private static final class Yard {
        static final int MOST_LORRIES = 12;
        static final int MOST_SEARCHED = 6;
        static final int MOST_DIGS = 5;
        // Turns of boxes for which no lorry comes, and what an empty stack counts.
        static final int NEVER = MOST_LORRIES;
        static final int EMPTY = NEVER + 1;
        static final int CELLS = STACKS * STACK_ROOM;
        static final int NEXT = CELLS + STACKS;

        final Boxes boxes;
        final int[] cell = new int[CELLS];
        final int[] high = new int[STACKS];
        final int[] lorry = new int[MOST_LORRIES];
        int lorries;
        // A served lorry has at most three boxes above its own.
        final int[] ruleDig = new int[MOST_LORRIES * (STACK_ROOM - 1)];
        final int[] leastDig = new int[MOST_DIGS];
        // By the digs made so far: the turn of each box in the stacks, their heights, the turn that is next.
        private final int[][] turns = new int[MOST_DIGS + 1][NEXT + 1];

        Yard(Boxes boxes) {
            this.boxes = boxes;
        }

        static boolean isGoal(int stack) {
            return stack >= NONE && stack < STACKS;
        }

        int room(int stack) {
            return STACK_ROOM - high[stack];
        }

        int highest(int stack) {
            return high[stack] == 0 ? NONE : cell[stack * STACK_ROOM + high[stack] - 1];
        }

        int put(int box, int stack) {
            int there = high[stack];
            cell[stack * STACK_ROOM + there] = box;
            high[stack]++;
            boxes.stand(box, IN_YARD, stack, NONE, there);
            return there;
        }

        void takeHighest(int stack) {
            int box = highest(stack);
            if (box != NONE) {
                high[stack]--;
                boxes.sendAway(box);
            }
        }

        int addLorry(int box) {
            if (lorries >= MOST_LORRIES) {
                return NONE;
            }
            for (int i = 0; i < lorries; i++) {
                if (lorry[i] == box) {
                    return NONE;
                }
            }
            lorry[lorries] = box;
            lorries++;
            return lorries;
        }

        // ---- digging

        /** Writes the boxes' turns as they stand, lorries without a box here left out: how many lorries. */
        private int layTurns() {
            int[] now = turns[0];
            Arrays.fill(now, NEVER);
            System.arraycopy(high, 0, now, CELLS, STACKS);
            now[NEXT] = 0;
            int turn = 0;
            for (int i = 0; i < lorries; i++) {
                int box = lorry[i];
                if (boxes.where[box] == IN_YARD) {
                    now[boxes.bay[box] * STACK_ROOM + boxes.tier[box]] = turn;
                    turn++;
                }
            }
            return turn;
        }

        private static int topTurn(int[] now, int stack) {
            int height = now[CELLS + stack];
            return height == 0 ? EMPTY : now[stack * STACK_ROOM + height - 1];
        }

        private static int soonest(int[] now, int stack) {
            int height = now[CELLS + stack];
            int least = height == 0 ? EMPTY : NEVER;
            for (int i = 0; i < height; i++) {
                least = Math.min(least, now[stack * STACK_ROOM + i]);
            }
            return least;
        }

        private static void move(int[] now, int from, int to) {
            int turn = topTurn(now, from);
            now[CELLS + from]--;
            now[to * STACK_ROOM + now[CELLS + to]] = turn;
            now[CELLS + to]++;
        }

        private static int stackOf(int[] now, int turn) {
            for (int stack = 0; stack < STACKS; stack++) {
                if (soonest(now, stack) == turn) {
                    return stack;
                }
            }
            return NONE;
        }

        /** The stack with room, but this one, whose soonest box comes latest; NONE: none has room. */
        private static int stackForDig(int[] now, int from) {
            int best = NONE;
            int latest = NONE;
            for (int stack = 0; stack < STACKS; stack++) {
                if (stack != from && now[CELLS + stack] < STACK_ROOM && soonest(now, stack) > latest) {
                    latest = soonest(now, stack);
                    best = stack;
                }
            }
            return best;
        }

        int digByRule() {
            int all = layTurns();
            int[] now = turns[0];
            int made = 0;
            for (int turn = 0; turn < all; turn++) {
                // The lorry that is next has the soonest box of all.
                int from = stackOf(now, turn);
                while (from != NONE && topTurn(now, from) != turn && made < ruleDig.length) {
                    int to = stackForDig(now, from);
                    if (to == NONE) {
                        return NO_ROOM;
                    }
                    move(now, from, to);
                    ruleDig[made] = 10 * from + to;
                    made++;
                }
                if (from != NONE) {
                    now[CELLS + from]--;
                }
            }
            return made;
        }

        int digLeast() {
            int all = layTurns();
            if (all > MOST_SEARCHED) {
                return TOO_MANY;
            }
            for (int most = 0; most <= MOST_DIGS; most++) {
                layTurns();
                if (servesAll(turns, leastDig, all, 0, most)) {
                    return most;
                }
            }
            return NO_ROOM;
        }

        /** Whether so many digs more serve all; the stacks are tried in their order, so the first way is found. */
        private static boolean servesAll(int[][] turns, int[] digs, int all, int made, int left) {
            int[] now = turns[made];
            serve(now, all);
            if (now[NEXT] >= all) {
                return true;
            }
            // Each box that stands on a sooner one needs a dig.
            if (made >= MOST_DIGS || blockers(now) > left) {
                return false;
            }
            for (int way = 0; way < STACKS * STACKS; way++) {
                int from = way / STACKS;
                int to = way % STACKS;
                if (from == to || now[CELLS + from] == 0 || now[CELLS + to] == STACK_ROOM) {
                    continue;
                }
                System.arraycopy(now, 0, turns[made + 1], 0, NEXT + 1);
                move(turns[made + 1], from, to);
                digs[made] = 10 * from + to;
                if (servesAll(turns, digs, all, made + 1, left - 1)) {
                    return true;
                }
            }
            return false;
        }

        private static void serve(int[] now, int all) {
            for (int i = 0; i < CELLS && now[NEXT] < all; i++) {
                int stack = stackOf(now, now[NEXT]);
                if (stack == NONE || topTurn(now, stack) != now[NEXT]) {
                    return;
                }
                now[CELLS + stack]--;
                now[NEXT]++;
            }
        }

        int countBlockers() {
            layTurns();
            return blockers(turns[0]);
        }

        private static int blockers(int[] now) {
            int n = 0;
            for (int stack = 0; stack < STACKS; stack++) {
                int least = EMPTY;
                for (int i = 0; i < now[CELLS + stack]; i++) {
                    int turn = now[stack * STACK_ROOM + i];
                    n += turn > least ? 1 : 0;
                    least = Math.min(least, turn);
                }
            }
            return n;
        }
    }

    // ---- facts ----

    /** Facts told one after another, of which later ones may void earlier ones. */
    private static final class Facts {
        static final int MOST_FACTS = 60;
        static final int HEAVIEST = 60;
        static final int SIGHT = 0;
        static final int STOP = 1;
        static final int FREE = 2;
        static final int READING = 3;
        static final int VOID = 4;

        final Boxes boxes;
        final int[] kind = new int[MOST_FACTS];
        final int[] about = new int[MOST_FACTS];
        final int[] tells = new int[MOST_FACTS];
        // Of a reading, a bit for each box: whether it was aboard, and both bits of its row.
        private final int[] aboard = new int[MOST_FACTS];
        private final int[] oddRow = new int[MOST_FACTS];
        private final int[] highRow = new int[MOST_FACTS];
        int count;
        // The readings gathered, and by how much each is beyond the list as told.
        private final int[] gathered = new int[MOST_FACTS];
        private final int[] gap = new int[MOST_FACTS];
        private int readings;

        Facts(Boxes boxes) {
            this.boxes = boxes;
        }

        int note(int itsKind, int box, int told) {
            if (count >= MOST_FACTS) {
                return NONE;
            }
            kind[count] = itsKind;
            about[count] = box;
            tells[count] = told;
            if (itsKind == READING) {
                keepStowage(count);
            }
            count++;
            return count - 1;
        }

        private void keepStowage(int fact) {
            aboard[fact] = 0;
            oddRow[fact] = 0;
            highRow[fact] = 0;
            for (int box = 0; box < boxes.count; box++) {
                if (boxes.where[box] == ABOARD) {
                    aboard[fact] |= 1 << box;
                    oddRow[fact] |= (boxes.row[box] & 1) << box;
                    highRow[fact] |= (boxes.row[box] >> 1 & 1) << box;
                }
            }
        }

        boolean canKnow(int n) {
            return n >= 0 && n <= count;
        }

        /** The facts (bits) that voids among the first n name. */
        private long voided(int n) {
            long bits = 0;
            for (int fact = 0; fact < n; fact++) {
                if (kind[fact] == VOID) {
                    bits |= 1L << tells[fact];
                }
            }
            return bits;
        }

        private boolean isSightOf(int fact, int box, long voided) {
            return kind[fact] == SIGHT && about[fact] == box && (voided >> fact & 1) == 0;
        }

        int lastHolder(int box, int n) {
            long voided = voided(n);
            for (int fact = n - 1; fact >= 0; fact--) {
                if (isSightOf(fact, box, voided)) {
                    return tells[fact];
                }
            }
            return NOTHING;
        }

        int holderOnWay(int box, int n, int i) {
            long voided = voided(n);
            int holder = NONE;
            int passed = -1;
            for (int fact = 0; fact < n; fact++) {
                if (isSightOf(fact, box, voided) && tells[fact] != holder) {
                    holder = tells[fact];
                    passed++;
                    if (passed == i) {
                        return holder;
                    }
                }
            }
            return NONE;
        }

        boolean isStopped(int box, int n) {
            long voided = voided(n);
            for (int fact = n - 1; fact >= 0; fact--) {
                boolean isCustoms = kind[fact] == STOP || kind[fact] == FREE;
                if (isCustoms && about[fact] == box && (voided >> fact & 1) == 0) {
                    return kind[fact] == STOP;
                }
            }
            return false;
        }

        /** Gathers the readings known by n, for the questions below. */
        void gather(int n) {
            long voided = voided(n);
            readings = 0;
            for (int fact = 0; fact < n; fact++) {
                if (kind[fact] == READING && (voided >> fact & 1) == 0) {
                    gathered[readings] = fact;
                    gap[readings] = tells[fact] - listAsTold(fact);
                    readings++;
                }
            }
        }

        private int listAsTold(int fact) {
            int sum = 0;
            for (int box = 0; box < boxes.count; box++) {
                sum += boxes.weight[box] * lever(fact, box);
            }
            return sum;
        }

        private int lever(int fact, int box) {
            if ((aboard[fact] >> box & 1) == 0) {
                return 0;
            }
            int row = (oddRow[fact] >> box & 1) + 2 * (highRow[fact] >> box & 1);
            return 2 * row - 3;
        }

        boolean areAllAsTold() {
            for (int i = 0; i < readings; i++) {
                if (gap[i] != 0) {
                    return false;
                }
            }
            return true;
        }

        /** The least weight but the told one with which all readings gathered are so; NOTHING: none. */
        int otherWeight(int box) {
            for (int weight = 1; weight <= HEAVIEST; weight++) {
                if (weight != boxes.weight[box] && explains(box, weight - boxes.weight[box])) {
                    return weight;
                }
            }
            return NOTHING;
        }

        private boolean explains(int box, int more) {
            for (int i = 0; i < readings; i++) {
                if (gap[i] != more * lever(gathered[i], box)) {
                    return false;
                }
            }
            return true;
        }
    }

    // ---- work ----

    /** Jobs, and both cranes at work on them tick by tick. */
    private static final class Work {
        static final int MOST_JOBS = 40;
        static final int LIFTING = 2;

        // A job's columns; an unloading has no box.
        static final int BOX = 0;
        static final int BAY = 1;
        static final int ROW = 2;
        static final int STACK = 3;
        static final int TAKER = 4;
        static final int TAKEN = 5;
        static final int ENDED = 6;
        static final int RESULT = 7;

        final Ship ship;
        private final int[][] table = new int[MOST_JOBS][RESULT + 1];
        int jobs;
        private final int[] over = new int[2];
        private final int[] busy = new int[2];
        private final int[] lifted = new int[2];
        private final int[] moves = new int[2];
        private final int[] did = new int[2];
        int tick;
        int windFrom;
        int windTo;
        int shift;
        int rest;

        Work(Ship ship) {
            this.ship = ship;
            beginAnew();
        }

        void beginAnew() {
            jobs = 0;
            for (int crane = 0; crane < 2; crane++) {
                over[crane] = crane == 0 ? 0 : ship.terms.bays - 1;
                busy[crane] = NONE;
                lifted[crane] = 0;
                moves[crane] = 0;
                did[crane] = 0;
            }
            tick = 0;
            windFrom = 0;
            windTo = NONE;
            shift = 0;
            rest = 0;
        }

        int addJob(int box, int bay, int row, int stack) {
            if (jobs >= MOST_JOBS) {
                return NONE;
            }
            int[] job = table[jobs];
            job[BOX] = box;
            job[BAY] = bay;
            job[ROW] = row;
            job[STACK] = stack;
            job[TAKER] = NONE;
            job[TAKEN] = NOT_YET;
            job[ENDED] = NOT_YET;
            job[RESULT] = NOT_YET;
            jobs++;
            return jobs - 1;
        }

        int doneJobs() {
            return did[0] + did[1];
        }

        int pass(int ticks) {
            int before = doneJobs();
            for (int i = 0; i < ticks; i++) {
                for (int crane = 0; crane < 2 && !isResting(); crane++) {
                    if (bringsToEnd(crane)) {
                        finishJob(crane);
                    }
                }
                tick++;
            }
            return doneJobs() - before;
        }

        private boolean isResting() {
            return shift > 0 && Math.floorMod(tick, shift + rest) >= shift;
        }

        private boolean isWindy() {
            return tick >= windFrom && tick <= windTo;
        }

        /** A crane's tick: whether its job is lifted long enough then. */
        private boolean bringsToEnd(int crane) {
            if (busy[crane] == NONE) {
                seekJob(crane);
            }
            if (busy[crane] == NONE) {
                return false;
            }
            int goal = table[busy[crane]][BAY];
            if (goal != over[crane]) {
                moveTowards(crane, goal);
            } else if (!isWindy()) {
                lifted[crane]++;
            }
            return lifted[crane] >= LIFTING;
        }

        private void seekJob(int crane) {
            for (int job = 0; job < jobs; job++) {
                if (table[job][TAKER] == NONE && isOnSide(crane, table[job][BAY])) {
                    table[job][TAKER] = crane;
                    table[job][TAKEN] = tick;
                    busy[crane] = job;
                    return;
                }
            }
        }

        private boolean isOnSide(int crane, int bay) {
            int other = 1 - crane;
            int stands = over[other];
            int goes = busy[other] == NONE ? stands : table[busy[other]][BAY];
            return crane == 0 ? bay < stands && bay < goes : bay > stands && bay > goes;
        }

        private void moveTowards(int crane, int goal) {
            int then = over[crane] < goal ? over[crane] + 1 : over[crane] - 1;
            if (over[1 - crane] != then) {
                over[crane] = then;
                moves[crane]++;
            }
        }

        private void finishJob(int crane) {
            int[] job = table[busy[crane]];
            job[RESULT] = job[BOX] == NONE
                    ? ship.unloading(job[BAY], job[ROW], job[STACK])
                    : ship.loading(job[BOX], job[BAY], job[ROW]);
            job[ENDED] = tick;
            busy[crane] = NONE;
            lifted[crane] = 0;
            did[crane]++;
        }

        int tellJob(int number, int what) {
            int[] job = table[number];
            switch (what) {
                case 0: return job[TAKER] == NONE ? 0 : job[ENDED] == NOT_YET ? 1 : 2;
                case 1: return job[TAKER] == NONE ? NOT_YET : job[TAKER];
                case 2: return job[TAKEN];
                case 3: return job[ENDED];
                case 4: return job[RESULT];
                default: return NOT_YET;
            }
        }

        int tellCrane(int crane, int what) {
            switch (what) {
                case 0: return over[crane];
                case 1: return busy[crane];
                case 2: return lifted[crane];
                case 3: return moves[crane];
                case 4: return did[crane];
                default: return NONE;
            }
        }
    }

    // ---- tally books ----

    /** Both tally books, and how they are joined. */
    private static final class Books {
        static final int MOST_ROWS = 30;

        final int[] size = new int[2];
        final int[] mateOf = new int[MOST_ROWS];
        private final int[][] box = new int[2][MOST_ROWS];
        private final int[][] on = new int[2][MOST_ROWS];
        private final int[][] tick = new int[2][MOST_ROWS];
        private final boolean[] isMate = new boolean[MOST_ROWS];

        int write(int book, int itsBox, boolean isOn, int itsTick) {
            int row = size[book];
            if (row >= MOST_ROWS) {
                return NONE;
            }
            box[book][row] = itsBox;
            on[book][row] = isOn ? 1 : 0;
            tick[book][row] = itsTick;
            size[book]++;
            return row;
        }

        /** Finds the mates of book 0's rows within d ticks: how many have one. */
        int join(int d) {
            for (int row = 0; row < MOST_ROWS; row++) {
                isMate[row] = false;
            }
            int joined = 0;
            for (int row = 0; row < size[0]; row++) {
                int mate = nearest(row, d);
                mateOf[row] = mate;
                if (mate != NONE) {
                    isMate[mate] = true;
                    joined++;
                }
            }
            return joined;
        }

        private int nearest(int row, int d) {
            int best = NONE;
            int least = d + 1;
            for (int other = 0; other < size[1]; other++) {
                if (isMate[other] || box[1][other] != box[0][row] || on[1][other] != on[0][row]) {
                    continue;
                }
                int away = Math.abs(tick[1][other] - tick[0][row]);
                if (away < least) {
                    least = away;
                    best = other;
                }
            }
            return best;
        }

        int surplusOn(int book, int itsBox) {
            int surplus = 0;
            for (int row = 0; row < size[book]; row++) {
                if (box[book][row] == itsBox) {
                    surplus += on[book][row] == 1 ? 1 : -1;
                }
            }
            return surplus;
        }
    }
}
