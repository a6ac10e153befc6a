/** The edges that part I of the terms and promises 1 to 5 name: the tape, its tokens, the faults of a text. */
public final class EdgeTextTest {
    static final String[] WORDS = {"bays", "list", "trim", "bend", "lift", "plug", "pair", "place", "if", "or", "and",
        "not", "sort", "weight", "port", "bay", "row", "tier", "plugged", "osort", "oweight", "oport", "obay", "orow",
        "otier"};

    public static void main(String[] args) {
        newObject();
        feed();
        back();
        read();
        place();
        names();
        words();
        letters();
        ints();
        everyByte();
        signs();
        longest();
        bays();
        notToldLimits();
        lastTold();
        plugs();
        numbered();
        textEnd();
        leastOfOnePlace();
        firstByPlace();
        everySyntax();
        tokens401();
        pairs9();
        places9();
        parentheses7();
        twice();
        wrong();
        roomAheadOfTwice();
        faultChangesNothing();
        bayNoMoreThere();
        inPlaceOfTheOneAhead();
        workBeginsAnew();
        Edge.end();
    }

    // ---- promises 1 to 5

    static void newObject() {
        Edge.sentence("1: Three BAYS, nothing told, no BOXES, FACTS, LORRIES.");
        int[] due = {3, 0, 0, 0, 0, 0, 0, 0, 0, 31, 9999, 9999, 9999, 99, 0, 0, 0, 0, 0};
        for (int i = 0; i < due.length; i++) {
            int what = i;
            Edge.answers("count(" + i + ")", Edge.NEW, x -> x.count(what), due[i]);
        }
        Edge.answers("at(2, 0, 2) when loaded there", Edge.boxes(1).then(Edge.load(0, 2, 0)), x -> x.at(2, 0, 2), 0);
        Edge.refused("load to a fourth bay", Edge.boxes(1), x -> x.load(0, 3, 0), -1);
        Edge.answers("the first box", Edge.NEW, x -> x.box(1, 0, 0), 0);
        Edge.answers("the first fact", Edge.NEW, x -> x.reading(0), 0);
        Edge.answers("digs", Edge.NEW, x -> x.digs(), 0);
        Edge.answers("clear", Edge.NEW, x -> x.clear(), 0);
        Edge.answers("pairs", Edge.NEW, x -> x.pairs(0), -1);
        Edge.answers("places", Edge.NEW, x -> x.places(0), -1);
    }

    static Edge.Deed bytes(int n) {
        return Edge.tape("list 7;" + Due.times(n - 7, " "));
    }

    static void feed() {
        Edge.sentence("2 feed: Twenty bytes, the highest of a first, come behind the tape: how many it has.");
        Edge.answers("the first feed", Edge.NEW, x -> x.feed(0, 0, 0, 0, 0), 20);
        Edge.answers("the second", Edge.tape("list 7;"), x -> x.feed(0, 0, 0, 0, 0), 27);
        // Each byte of the twenty has its place: the fault is at the one sign that no text has.
        for (int k = 0; k < 20; k++) {
            int[] w = new int[5];
            for (int i = 0; i < 20; i++) {
                w[i / 4] |= (i == k ? 200 + k : 32) << 24 - 8 * (i % 4);
            }
            int at = k;
            Edge.Deed fed = x -> x.feed(w[0], w[1], w[2], w[3], w[4]);
            Edge.answers("read() of a byte " + at, fed, x -> x.read(), 1);
            Edge.answers("place() of a byte " + at, fed.then(x -> x.read()), x -> x.place(), at);
        }
        Edge.sentence("2 feed: NONE, and nothing comes, if it would have more than 2,000.");
        Edge.answers("feed on 1,979 bytes", bytes(1979), x -> x.feed(-1, -1, -1, -1, -1), 1999);
        Edge.answers("feed on 1,980 bytes", bytes(1980), x -> x.feed(-1, -1, -1, -1, -1), 2000);
        Edge.refused("feed on 1,981 bytes", bytes(1981), x -> x.feed(-1, -1, -1, -1, -1), -1);
        Edge.refused("feed on 1,999 bytes", bytes(1999), x -> x.feed(-1, -1, -1, -1, -1), -1);
        Edge.refused("feed on 2,000 bytes", bytes(2000), x -> x.feed(-1, -1, -1, -1, -1), -1);
        Edge.sentence("I: A TEXT has 2,000 bytes at most.");
        Edge.answers("read() of 2,000 bytes", bytes(2000), x -> x.read(), 0);
        Edge.answers("a TELL that ends at byte 2,000", Edge.tape(Due.times(1993, " ") + "list 7;").then(x -> x.read()),
                x -> x.count(10), 7);
    }

    static void back() {
        Edge.sentence("3 back: The last n bytes of the tape go: how many it has.");
        Edge.answers("back(0) of none", Edge.NEW, x -> x.back(0), 0);
        Edge.answers("back(0)", Edge.tape("list 7;"), x -> x.back(0), 7);
        Edge.answers("back(1)", Edge.tape("list 7;"), x -> x.back(1), 6);
        Edge.answers("back of all", Edge.tape("list 7;"), x -> x.back(7), 0);
        Edge.answers("back of 2,000", bytes(2000), x -> x.back(2000), 0);
        Edge.sentence("3 back: what has gone does not count when the tape is read");
        String[] whole = {"list 1234;", "list 1234;", "place a if 1<=2;", "place a if 1==2;", "pairs a if 1<2;", "list 7;x"};
        int[] gone = {3, 1, 3, 3, 11, 1};
        int[] faults = {1, 1, 1, 1, 1, 0};
        int[] places = {7, 9, 13, 12, 4, -1};
        for (int i = 0; i < whole.length; i++) {
            int n = gone[i];
            Edge.Deed cut = Edge.tape(whole[i]).then(x -> x.back(n));
            Edge.answers(whole[i] + " less " + n, cut, x -> x.read(), faults[i]);
            Edge.answers(whole[i] + " less " + n, cut.then(x -> x.read()), x -> x.place(), places[i]);
        }
        Edge.Deed sign = Edge.tape(Due.times(1984, " ") + "place a if 1<=2;").then(x -> x.back(3));
        Edge.answers("a sign cut at the end", sign, x -> x.read(), 1);
        Edge.answers("its place", sign.then(x -> x.read()), x -> x.place(), 1997);
        Edge.sentence("3 back: NONE, and nothing goes, if it has not so many");
        Edge.refusedFor("back(*) of none", Edge.NEW, (x, n) -> x.back(n), -1, 1, 2, Edge.GREATEST);
        Edge.refusedFor("back(*) of seven", Edge.tape("list 7;"), (x, n) -> x.back(n), -1, 8, 9, Edge.GREATEST);
        Edge.refused("back(2001) of 2,000", bytes(2000), x -> x.back(2001), -1);
        Edge.sentence("3 back: .. or n is below 0.");
        Edge.refusedFor("back(*)", Edge.tape("list 7;"), (x, n) -> x.back(n), -1, -1, -7, Edge.LEAST);
    }

    static void read() {
        Edge.sentence("4 read: The tape, which is empty then, is read: 0, the number of its FAULT, or -3.");
        Edge.answers("an empty tape", Edge.NEW, x -> x.read(), 0);
        String[] texts = {"list 7;", "list", Due.times(101, "plug 0 0;"), "pair a if 1<2; pair a if 1<2;", "lift 0;"};
        int[] faults = {0, 1, 2, 3, 5};
        for (int i = 0; i < texts.length; i++) {
            Edge.answers("read() for " + faults[i], Edge.tape(texts[i]), x -> x.read(), faults[i]);
            Edge.answers("the tape behind " + faults[i], Edge.tape(texts[i]).then(x -> x.read()), x -> x.count(8), 0);
            Edge.answers("read() again behind " + faults[i], Edge.tape(texts[i]).then(x -> x.read()),
                    x -> x.read(), 0);
        }
        Edge.Deed far = Edge.boxes(1).then(Edge.load(0, 2, 0)).then(Edge.tape("bays 2;"));
        Edge.answers("read() for -3", far, x -> x.read(), -3);
        Edge.answers("the tape behind -3", far.then(x -> x.read()), x -> x.count(8), 0);
    }

    static void place() {
        Edge.sentence("5 place: The byte of the latest read()'s FAULT; NONE without.");
        Edge.answers("ahead of any read()", Edge.NEW, x -> x.place(), -1);
        Edge.answers("the first byte", Edge.tape("x").then(x -> x.read()), x -> x.place(), 0);
        Edge.answers("the last byte", Edge.tape(Due.times(1999, " ") + "x").then(x -> x.read()), x -> x.place(), 1999);
        Edge.answers("the end", Edge.tape(Due.times(1996, " ") + "bays").then(x -> x.read()), x -> x.place(), 2000);
        Edge.Deed bad = Edge.tape("  x").then(x -> x.read());
        Edge.answers("a fault", bad, x -> x.place(), 2);
        Edge.answers("behind a read() without", bad.then(x -> x.read()), x -> x.place(), -1);
        Edge.answers("behind another fault", bad.then(Edge.tape("bays 9;")).then(x -> x.read()), x -> x.place(), 5);
        Edge.answers("the next text does not count until it is read", bad.then(Edge.tape("bays 9;")), x -> x.place(),
                2);
        Edge.answers("behind -3", bad.then(Edge.boxes(1)).then(Edge.load(0, 2, 0)).then(Edge.tape("bays 2;"))
                .then(x -> x.read()), x -> x.place(), -1);
    }

    // ---- tokens

    static void fault(String text, int fault, int place) {
        Edge.Deed told = Edge.tape(text);
        String shown = text.length() > 70 ? text.substring(0, 70) + ".." : text;
        Edge.answers("read() of " + shown, told, x -> x.read(), fault);
        Edge.answers("place() of " + shown, told.then(x -> x.read()), x -> x.place(), place);
    }

    static void names() {
        Edge.sentence("I: NAMES (letters a .. z, 8 at most");
        fault("pair a if 1<2;", 0, -1);
        fault("pair abcdefgh if 1<2;", 0, -1);
        fault("pair abcdefghi if 1<2;", 1, 5);
        fault("pair zzzzzzzz if 1<2;pair zzzzzzzy if 1<2;", 0, -1);
        fault("pair zzzzzzzz if 1<2;pair zzzzzzzz if 1<2;", 3, 26);
        // The first eight letters of a longer one are no NAME of their own.
        fault("pair abcdefghif 1<2;", 1, 5);
        fault("place weighted if 1<2;", 0, -1);
        fault("place weightedx if 1<2;", 1, 6);
    }

    static void words() {
        Edge.sentence("I: NAMES (.. none of the words in quotes)");
        for (String word : WORDS) {
            fault("pair " + word + " if 1<2;", 1, 5);
            fault("place " + word + " if 1<2;", 1, 6);
            if (word.length() < 8) {
                fault("pair " + word + "z if 1<2;", 0, -1);
                fault("pair z" + word + " if 1<2;", 0, -1);
            }
            String shorter = word.substring(0, word.length() - 1);
            fault("pair " + shorter + " if 1<2;", shorter.equals("bay") ? 1 : 0, shorter.equals("bay") ? 5 : -1);
        }
    }

    static void letters() {
        Edge.sentence("I: letters a .. z");
        fault("pair a if 1<2;", 0, -1);
        fault("pair z if 1<2;", 0, -1);
        fault("pair ` if 1<2;", 1, 5);
        fault("pair { if 1<2;", 1, 5);
        fault("pair A if 1<2;", 1, 5);
        fault("pair Z if 1<2;", 1, 5);
        fault("pair a` if 1<2;", 1, 6);
        fault("pair z{ if 1<2;", 1, 6);
        fault("pair aZ if 1<2;", 1, 6);
    }

    static void ints() {
        Edge.sentence("I: INTS (1 to 4 digits)");
        fault("list 0;", 0, -1);
        fault("list 9999;", 0, -1);
        fault("list 0000;", 0, -1);
        fault("list 10000;", 1, 5);
        fault("list 00000;", 1, 5);
        fault("list;", 1, 4);
        fault("list /;", 1, 5);
        fault("list :;", 1, 5);
        Edge.answers("list 0", Edge.text("list 0;"), x -> x.count(10), 0);
        Edge.answers("list 9", Edge.text("list 9;"), x -> x.count(10), 9);
        Edge.answers("list 0012", Edge.text("list 0012;"), x -> x.count(10), 12);
        Edge.answers("list 9999", Edge.text("list 9999;"), x -> x.count(10), 9999);
    }

    static void everyByte() {
        Edge.sentence("I: blanks (9, 10, 13, 32) between or not");
        for (int b = 0; b < 256; b++) {
            String text = "bays" + (char) b + "3;";
            boolean blank = b == 9 || b == 10 || b == 13 || b == 32;
            boolean letter = b >= 'a' && b <= 'z';
            boolean digit = b >= '0' && b <= '9';
            // A letter makes another word of it, a digit the INTS 03 to 93, of which 03 alone is a number of bays.
            int fault = blank || b == '0' ? 0 : digit ? 5 : 1;
            fault(text, fault, fault == 0 ? -1 : letter ? 0 : 4);
            fault((char) b + "", blank ? 0 : 1, blank ? -1 : 0);
            fault("list 7;" + (char) b, blank ? 0 : 1, blank ? -1 : 7);
        }
        fault("plug1 2;", 0, -1);
        fault("plug 12;", 1, 7);
        fault("plug 1\t\n\r 2;", 0, -1);
        fault("place a if 1<2and 3<4or not 5<6;", 0, -1);
    }

    static void signs() {
        Edge.sentence("I: SIGNS ; + - * == != < <= ( )");
        fault("place a if (1+2-3*4)==5;", 0, -1);
        fault("place a if 1!=2;", 0, -1);
        fault("place a if 1<2;", 0, -1);
        fault("place a if 1<=2;", 0, -1);
        String[] none = {"=", "!", ">", ">=", "=<", "<>", "/", "%", "&", "|", "[", "]", ",", ".", ":", "\"", "'", "_"};
        for (String sign : none) {
            fault("place a if 1" + sign + "2;", 1, sign.equals("<>") ? 13 : 12);
        }
    }

    static void longest() {
        Edge.sentence("I: TOKENS, the longest that can be .. A longer one, all else, is no TOKEN.");
        fault("place a if 1<=2;", 0, -1);
        fault("place a if 1< =2;", 1, 14);
        fault("place a if 1= =2;", 1, 12);
        fault("place a if 1! =2;", 1, 12);
        fault("place a if 1==2;", 0, -1);
        fault("place a if 1===2;", 1, 14);
        fault("place a if 1<==2;", 1, 14);
        fault("place a if 1!==2;", 1, 14);
        fault("baysx 3;", 1, 0);
        fault("bays 12345;", 1, 5);
        fault("abcdefghijklmnop", 1, 0);
    }

    // ---- what a text tells

    static void bays() {
        Edge.sentence("I: BAYS (2 .. 5; 3 if not told)");
        Edge.answers("not told", Edge.text("list 7;"), x -> x.count(0), 3);
        for (int bays = 2; bays <= 5; bays++) {
            Edge.Deed told = Edge.text("bays " + bays + ";").then(Edge.boxes(1));
            int last = bays - 1;
            Edge.answers("bays " + bays, told, x -> x.count(0), bays);
            Edge.answers("its last bay", told, x -> x.load(0, last, 0), 2);
            Edge.refused("one beyond it", told, x -> x.load(0, last + 1, 0), -1);
            Edge.answers("crane B stands over the last one", told, x -> x.crane(1, 0), last);
        }
    }

    static void notToldLimits() {
        Edge.sentence("I: the greatest LIST, TRIM, BEND borne (9999 each if not told), .. LIFTS (99 if not told)");
        int[] due = {9999, 9999, 9999, 99};
        String[] words = {"list", "trim", "bend", "lift"};
        for (int i = 0; i < 4; i++) {
            int what = 10 + i;
            Edge.answers(words[i] + " if not told", Edge.text("bays 4;"), x -> x.count(what), due[i]);
            Edge.answers(words[i] + " if told once and then not", Edge.text(words[i] + " 5;").then(Edge.text("")),
                    x -> x.count(what), due[i]);
            Edge.answers(words[i] + " 9999", Edge.text(words[i] + " 9999;"), x -> x.count(what), 9999);
            Edge.answers(words[i] + " 1", Edge.text(words[i] + " 1;"), x -> x.count(what), 1);
        }
    }

    static void lastTold() {
        Edge.sentence("I: of several the last told");
        String text = "bays 2; bays 5; bays 4; list 1; list 3; list 2; trim 6; trim 4; bend 7; bend 9; lift 8; lift 5;";
        int[] what = {0, 10, 11, 12, 13};
        int[] due = {4, 2, 4, 9, 5};
        for (int i = 0; i < what.length; i++) {
            int w = what[i];
            Edge.answers("count(" + w + ")", Edge.text(text), x -> x.count(w), due[i]);
        }
    }

    static void plugs() {
        Edge.sentence("I: PLUG a b: the places of BAY a, ROW b have plugs.");
        for (int bay = 0; bay < 5; bay++) {
            for (int row = 0; row < 4; row++) {
                int b = bay;
                int r = row;
                Edge.Deed told = Edge.text("bays 5; plug " + bay + " " + row + "; place p if plugged == 1;");
                for (int i = 0; i < 20; i++) {
                    int due = i / 4 == b && i % 4 == r ? 1 : 0;
                    int place = i;
                    Edge.answers("plug " + b + " " + r + ": a box at " + i, told.then(Edge.boxes(1))
                            .then(Edge.load(0, place / 4, place % 4)), x -> x.places(0), due);
                }
            }
        }
        Edge.answers("all tiers of it", Edge.text("plug 0 1; place p if plugged == 1;").then(Edge.boxes(4))
                .then(Edge.uncover(0)).then(Edge.load(0, 0, 1)).then(Edge.load(1, 0, 1)).then(Edge.recover(0))
                .then(Edge.load(2, 0, 1)).then(Edge.load(3, 0, 1)), x -> x.places(0), 4);
        Edge.answers("a bay that is not there may have one", Edge.tape("bays 2; plug 4 3;"), x -> x.read(), 0);
    }

    static void numbered() {
        Edge.sentence("I: PAIRS, PLACES: rules, numbered each from 0 on as they stand.");
        Edge.Deed told = Edge.text("place a if row == 0; pair b if 1 < 2; place c if row == 1; pair d if 2 < 1;")
                .then(Edge.boxes(3)).then(Edge.load(0, 0, 0)).then(Edge.load(1, 0, 1)).then(Edge.load(2, 1, 1));
        Edge.answers("places(0)", told, x -> x.places(0), 1);
        Edge.answers("places(1)", told, x -> x.places(1), 2);
        Edge.answers("places(2)", told, x -> x.places(2), -1);
        Edge.answers("pairs(0)", told, x -> x.pairs(0), 6);
        Edge.answers("pairs(1)", told, x -> x.pairs(1), 0);
        Edge.answers("pairs(2)", told, x -> x.pairs(2), -1);
    }

    // ---- faults

    static void textEnd() {
        Edge.sentence("I: its place (a byte; the text's end: its length)");
        fault("bays", 1, 4);
        fault("bays ", 1, 5);
        fault("bays 3", 1, 6);
        fault("bays 3 \n", 1, 8);
        fault("plug 1", 1, 6);
        fault("plug 1 2", 1, 8);
        fault("pair", 1, 4);
        fault("pair a", 1, 6);
        fault("pair a if", 1, 9);
        fault("pair a if not", 1, 13);
        fault("pair a if 1", 1, 11);
        fault("pair a if 1<", 1, 12);
        fault("pair a if 1<2", 1, 13);
        fault("pair a if (1", 1, 12);
        fault("pair a if (1)", 1, 13);
        fault("pair a if 1<2 and", 1, 17);
        fault("pair a if 1<2 or", 1, 16);
        fault("pair a if 1+", 1, 12);
    }

    static final String FULL = Due.times(100, "plug 0 0;");

    static void leastOfOnePlace() {
        Edge.sentence("I: FAULTS of a text, .. of one place the least");
        // The 401st token is one with which no text goes on: SYNTAX is less than ROOM.
        fault(FULL + "7", 1, 900);
        fault(FULL + ";", 1, 900);
        fault(FULL + "#", 1, 900);
        fault(FULL + "abcdefghi", 1, 900);
        fault(FULL + "plug", 2, 900);
        // A 9th pair where none can stand, a 7th ( where none can stand.
        fault(rules("pair", 8) + "bays pair", 1, rules("pair", 8).length() + 5);
        fault("pair a if ((((((1(", 1, 17);
        fault("pair a if ((((((1+(", 2, 18);
        // A WRONG INT with which no text goes on: the SYNTAX fault stands at the place of the next one.
        fault("bays 9 9;", 1, 7);
    }

    static void firstByPlace() {
        Edge.sentence("I: FAULTS of a text, the first by its place");
        fault("# pair a if (((((((1", 1, 0);
        fault("pair a if (((((((1 #", 2, 16);
        fault("pair a if (((((((1)))))))<2; #", 2, 16);
        fault("bays 9; plug 9 9; lift 0;", 5, 5);
        fault("lift 0; bays 9;", 5, 5);
        fault("pair a if 1<2; bays 9; pair a if 1<2;", 5, 20);
        fault("pair a if 1<2; pair a if 1<2; bays 9;", 3, 20);
        fault("plug 9 9;", 5, 5);
        fault("plug 0 9; plug 9 0;", 5, 7);
    }

    static void everySyntax() {
        Edge.sentence("I: 1 SYNTAX: a TOKEN, or what is none, with which no text goes on.");
        String[] tokens = {"bays", "list", "trim", "bend", "lift", "plug", "pair", "place", "if", "or", "and", "not",
            "sort", "otier", "7", "a", ";", "+", "-", "*", "==", "!=", "<", "<=", "(", ")", "#"};
        String units = "sort otier 7 (";
        String more = "+ - *";
        String[][] goesOn = {
            {"", "bays list trim bend lift plug pair place"},
            {"bays ", "7"}, {"list ", "7"}, {"lift ", "7"}, {"plug ", "7"}, {"plug 1 ", "7"},
            {"bays 3 ", ";"}, {"trim 3 ", ";"}, {"bend 3 ", ";"}, {"plug 1 2 ", ";"},
            {"bays 3; ", "bays list trim bend lift plug pair place"},
            {"pair ", "a"}, {"place ", "a"}, {"pair b ", "if"}, {"place b ", "if"},
            {"pair b if ", "not " + units}, {"pair b if not ", "not " + units}, {"pair b if not not ", "not " + units},
            {"pair b if 1 ", "== != < <= " + more}, {"pair b if not 1 ", "== != < <= " + more},
            {"pair b if row ", "== != < <= " + more}, {"pair b if 1 + ", units}, {"pair b if 1 - ", units},
            {"pair b if 1 * ", units}, {"pair b if ( ", units}, {"pair b if ( 1 ", ") " + more},
            {"pair b if ( 1 ) ", "== != < <= " + more}, {"pair b if ( ( 1 ) ", ") " + more},
            {"pair b if 1 < ", units}, {"pair b if 1 == ", units}, {"pair b if 1 != ", units},
            {"pair b if 1 <= ", units}, {"pair b if 1 < 2 ", "; and or " + more},
            {"pair b if 1 < ( 2 ", ") " + more}, {"pair b if 1 < ( 2 ) ", "; and or " + more},
            {"pair b if 1 < 2 and ", "not " + units}, {"pair b if 1 < 2 or ", "not " + units},
            {"pair b if 1 < 2 and not ", "not " + units},
            {"pair b if 1 < 2 and 3 ", "== != < <= " + more}, {"pair b if 1 < 2 or 3 ", "== != < <= " + more},
            {"pair b if 1 < 2 and 3 < 4 ", "; and or " + more}, {"pair b if 1 < 2 or 3 < 4 ", "; and or " + more},
            {"pair b if 1 < 2; ", "bays list trim bend lift plug pair place"}};
        for (String[] row : goesOn) {
            for (String token : tokens) {
                boolean can = (" " + row[1] + " ").contains(" " + token + " ");
                String text = row[0] + token;
                // One that can go on leaves the text without its end, unless a ';' ends it.
                if (can && token.equals(";")) {
                    fault(text, 0, -1);
                } else {
                    fault(text, 1, can ? text.length() : row[0].length());
                }
            }
        }
    }

    static String rules(String word, int n) {
        StringBuilder s = new StringBuilder();
        for (int i = 0; i < n; i++) {
            s.append(word).append(" r").append(word.charAt(1)).append((char) ('a' + i)).append(" if 1<2;");
        }
        return s.toString();
    }

    static void tokens401() {
        Edge.sentence("I: 2 ROOM: a 401st TOKEN");
        fault(FULL, 0, -1);
        fault(FULL + "   ", 0, -1);
        fault(FULL + "bays 3;", 2, 900);
        fault(FULL + "  bays", 2, 902);
        fault(Due.times(133, "bays 3;"), 0, -1);
        // 399 tokens, and one, or two, of the next TELL.
        fault(Due.times(133, "bays 3;") + "bays", 1, 935);
        fault(Due.times(133, "bays 3;") + "bays 3", 2, 936);
        fault(Due.times(133, "bays 3;") + "bays 3;", 2, 936);
        // One condition of 400 tokens, of 401: pair a if, 1, 197 times and once more * 1, < 1 ;
        fault("pair a if 1" + Due.times(197, "*1") + "<not", 1, 407 - 1);
        fault("pair a if 1+1" + Due.times(196, "*1") + "<1;", 2, 407);
        fault("pair a if 1" + Due.times(196, "*1") + "<1;", 0, -1);
        fault("pair a if not 1" + Due.times(196, "*1") + "<1;", 0, -1);
        fault("pair a if not not 1" + Due.times(196, "*1") + "<1;", 2, 413);
    }

    static void pairs9() {
        Edge.sentence("I: 2 ROOM: a 9th pair .. (at its first TOKEN)");
        String eight = rules("pair", 8);
        fault(eight, 0, -1);
        fault(eight + "pair", 2, eight.length());
        fault(eight + "  pair z if 1<2;", 2, eight.length() + 2);
        fault(eight + rules("place", 8), 0, -1);
        fault(eight + "pair ra", 2, eight.length());
        Edge.answers("eight are told", Edge.text(eight), x -> x.count(1), 8);
        Edge.answers("the eighth", Edge.text(eight), x -> x.pairs(7), 0);
        Edge.answers("no ninth", Edge.text(eight), x -> x.pairs(8), -1);
    }

    static void places9() {
        Edge.sentence("I: 2 ROOM: .. a 9th place (at its first TOKEN)");
        String eight = rules("place", 8);
        fault(eight, 0, -1);
        fault(eight + "place", 2, eight.length());
        fault(eight + "  place z if 1<2;", 2, eight.length() + 2);
        fault(eight + rules("pair", 8), 0, -1);
        fault(eight + rules("pair", 8) + "place", 2, 2 * eight.length() - 8);
        Edge.answers("eight are told", Edge.text(eight), x -> x.count(2), 8);
        Edge.answers("the eighth", Edge.text(eight), x -> x.places(7), 0);
        Edge.answers("no ninth", Edge.text(eight), x -> x.places(8), -1);
    }

    static void parentheses7() {
        Edge.sentence("I: 2 ROOM: .. a 7th ( within one another (at it)");
        fault("pair a if ((((((1))))))<2;", 0, -1);
        fault("pair a if (((((((1)))))))<2;", 2, 16);
        fault("pair a if 2<((((((1))))));", 0, -1);
        fault("pair a if 2<(((((((1)))))));", 2, 18);
        fault("pair a if ((((((1))))))+((((((1))))))<((((((1))))));", 0, -1);
        fault("pair a if ((((((1)+(2)))))+(3))<1;", 0, -1);
        fault("pair a if ((((((1)+((2", 2, 20);
        // Each condition begins anew.
        fault("pair a if ((((((1))))))<2; pair b if ((((((1))))))<2;", 0, -1);
    }

    static void twice() {
        Edge.sentence("I: 3 TWICE: a NAME told already (of pair and place).");
        fault("pair a if 1<2; pair b if 1<2;", 0, -1);
        fault("pair a if 1<2; pair a if 1<2;", 3, 20);
        fault("place a if 1<2; place a if 1<2;", 3, 22);
        fault("pair a if 1<2; place a if 1<2;", 3, 21);
        fault("place a if 1<2; pair a if 1<2;", 3, 21);
        fault("pair a if 1<2; pair aa if 1<2; place aaa if 1<2;", 0, -1);
        String all = rules("pair", 8) + rules("place", 7);
        fault(all + "place z if 1<2;", 0, -1);
        fault(all + "place raa if 1<2;", 3, all.length() + 6);
        fault(all + "place rlg if 1<2;", 3, all.length() + 6);
        fault(all + "place rlh if 1<2;", 0, -1);
        Edge.answers("a name of the text ahead is free", Edge.text("pair a if 1<2;").then(Edge.tape("pair a if 1<2;")),
                x -> x.read(), 0);
        Edge.answers("so is one of a text with a fault", Edge.tape("pair a if 1<2; #").then(x -> x.read())
                .then(Edge.tape("pair a if 1<2;")), x -> x.read(), 0);
    }

    static void wrong() {
        Edge.sentence("I: 5 WRONG (at the INT): bays not 2 .. 5");
        int[] bays = {0, 1, 2, 5, 6, 9, 10, 12, 9999};
        for (int n : bays) {
            boolean can = n >= 2 && n <= 5;
            fault("bays " + n + ";", can ? 0 : 5, can ? -1 : 5);
            fault("bays   " + n + "; bays 3;", can ? 0 : 5, can ? -1 : 7);
        }
        Edge.sentence("I: 5 WRONG (at the INT): .. lift 0");
        fault("lift 0;", 5, 5);
        fault("lift 0000;", 5, 5);
        fault("lift 1;", 0, -1);
        fault("list 0; trim 0; bend 0;", 0, -1);
        Edge.sentence("I: 5 WRONG: .. of a plug a BAY that is not 0 .. 4");
        fault("plug 0 0;", 0, -1);
        fault("plug 4 0;", 0, -1);
        fault("plug 5 0;", 5, 5);
        fault("plug 9999 0;", 5, 5);
        Edge.sentence("I: 5 WRONG: .. a ROW that is not 0 .. 3");
        fault("plug 0 3;", 0, -1);
        fault("plug 0 4;", 5, 7);
        fault("plug 0 9999;", 5, 7);
        fault("plug 5 4;", 5, 5);
    }

    static void roomAheadOfTwice() {
        Edge.sentence("I: If there is none, likewise: 3 TWICE .. 5 WRONG");
        fault("bays 9; x", 1, 8);
        fault("bays 9; bays 3", 1, 14);
        fault("bays 9; pair a if (((((((1", 2, 24);
        fault("pair a if 1<2; pair a if 1<2", 1, 28);
        fault("pair a if 1<2; pair a if 1<2; x", 1, 30);
        fault("lift 0;" + FULL, 2, 903);
        fault("pair raa if 1<2; pair" + rules("pair", 8).substring(4), 2, 16 * 8 + 1);
    }

    static void faultChangesNothing() {
        Edge.sentence("I: A text with a FAULT changes nothing but the tape.");
        Edge.Deed busy = Edge.BUSY.then(x -> x.back(8));
        String told = "bays 5; list 1; trim 2; bend 3; lift 4; plug 0 0; pair p if 1<2; place q if 1<2;";
        String[] texts = {told + "#", told + FULL, told + "place p if 1<2;", told + "lift 0;", told + "plug 0 4;"};
        int[] faults = {1, 2, 3, 5, 5};
        for (int i = 0; i < texts.length; i++) {
            Edge.Deed fed = busy.then(Edge.tape(texts[i]));
            Edge.answers("the fault", fed, x -> x.read(), faults[i]);
            Edge.alike("a text with the fault " + faults[i], busy, fed.then(x -> x.read()));
        }
    }

    static void bayNoMoreThere() {
        Edge.sentence("I: in place of the one ahead, if no box stands in a BAY that would be no more there");
        for (int bay = 0; bay < 5; bay++) {
            Edge.Deed one = Edge.text("bays 5; list 77;").then(Edge.boxes(1)).then(Edge.load(0, bay, 1));
            for (int bays = 2; bays <= 5; bays++) {
                Edge.answers("bays " + bays + ", a box in bay " + bay, one.then(Edge.tape("bays " + bays + ";")),
                        x -> x.read(), bay < bays ? 0 : -3);
            }
            Edge.answers("not told, a box in bay " + bay, one, x -> x.read(), bay < 3 ? 0 : -3);
        }
        Edge.answers("the lightest counts", Edge.box(1, 0, 0).then(Edge.load(0, 2, 0)).then(Edge.tape("bays 2;")),
                x -> x.read(), -3);
        Edge.Deed hold = Edge.text("bays 5;").then(Edge.boxes(1)).then(Edge.uncover(4)).then(Edge.load(0, 4, 0));
        Edge.answers("one in a hold", hold.then(Edge.tape("bays 4;")), x -> x.read(), -3);
        Edge.answers("none that is gone", hold.then(x -> x.unload(4, 0, -1)).then(Edge.tape("bays 4;")),
                x -> x.read(), 0);
        Edge.answers("none in the yard", hold.then(x -> x.unload(4, 0, 3)).then(Edge.tape("bays 4;")),
                x -> x.read(), 0);
        Edge.sentence("I: (-3 then: the tape is empty, nothing else changes)");
        Edge.Deed busy = Edge.BUSY.then(x -> x.back(8));
        Edge.Deed less = busy.then(Edge.tape("bays 3; list 1; pair p if 1<2;"));
        Edge.answers("a bay less", less, x -> x.read(), -3);
        Edge.answers("the tape", less.then(x -> x.read()), x -> x.count(8), 0);
        Edge.alike("a bay less", busy, less.then(x -> x.read()));
        Edge.answers("a fault comes ahead of it", busy.then(Edge.tape("bays 3; lift 0;")), x -> x.read(), 5);
    }

    static void inPlaceOfTheOneAhead() {
        Edge.sentence("I: Else it is in place of the one ahead");
        Edge.Deed two = Edge.text("bays 5; list 1; plug 0 0; pair a if 1<2; place b if plugged == 1;")
                .then(Edge.boxes(1)).then(Edge.text("place c if plugged == 1;")).then(Edge.load(0, 0, 0));
        Edge.answers("bays", two, x -> x.count(0), 3);
        Edge.answers("list", two, x -> x.count(10), 9999);
        Edge.answers("pairs", two, x -> x.count(1), 0);
        Edge.answers("places", two, x -> x.count(2), 1);
        Edge.answers("plugs", two, x -> x.places(0), 0);
        Edge.answers("boxes stay", two, x -> x.count(3), 1);
        Edge.answers("covers stay", Edge.uncover(2).then(Edge.text("bays 2;")).then(Edge.text("bays 5;")),
                x -> x.count(9), 27);
    }

    static void workBeginsAnew() {
        Edge.sentence("V: When a text is read (without a FAULT, not -3) WORK begins anew");
        Edge.Deed busy = Edge.BUSY.then(x -> x.work(3)).then(x -> x.back(8));
        Edge.Deed anew = busy.then(Edge.text("bays 5;"));
        int[] counts = {14, 15, 16};
        for (int what : counts) {
            Edge.answers("count(" + what + ")", anew, x -> x.count(what), 0);
        }
        for (int crane = 0; crane < 2; crane++) {
            int c = crane;
            int[] due = {c == 0 ? 0 : 4, -1, 0, 0, 0};
            for (int what = 0; what < 5; what++) {
                int w = what;
                Edge.answers("crane(" + c + ", " + w + ")", anew, x -> x.crane(c, w), due[w]);
            }
        }
        Edge.refused("no jobs", anew, x -> x.job(0, 0), -100);
        Edge.Deed windy = Edge.boxes(2).then(x -> x.wind(0, 9999)).then(x -> x.shifts(1, 500));
        Edge.answers("wind and shifts", windy.then(x -> x.jobLoad(0, 0, 0)), x -> x.work(9), 0);
        Edge.answers("no wind, no shifts", windy.then(Edge.text("")).then(x -> x.jobLoad(0, 0, 0)), x -> x.work(2), 1);
        Edge.answers("not with a fault", windy.then(Edge.tape("#")).then(x -> x.read())
                .then(x -> x.jobLoad(0, 0, 0)), x -> x.work(9), 0);
        Edge.answers("not with -3", windy.then(Edge.load(1, 2, 0)).then(Edge.tape("bays 2;")).then(x -> x.read())
                .then(x -> x.jobLoad(0, 0, 0)), x -> x.work(9), 0);
    }
}
