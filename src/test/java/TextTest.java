/** Promises 2 to 5: the tape and the texts on it. */
public final class TextTest {
    public static void main(String[] args) {
        tape();
        tokens();
        syntax();
        room();
        twiceAndWrong();
        whichFirst();
        whatIsTold();
        whatStays();
        fullTape();
        Due.end();
    }

    static void tape() {
        BoxQuay x = new BoxQuay();
        Due.due("back(0) of nothing", x.back(0), 0);
        Due.due("back(1) of nothing", x.back(1), -1);
        Due.due("feed", x.feed(0x62617973, 0x20343b20, 0x20202020, 0x20202020, 0x20202020), 20);
        Due.due("back(-1)", x.back(-1), -1);
        Due.due("back(21)", x.back(21), -1);
        Due.due("tape", x.count(8), 20);
        Due.due("back(20)", x.back(20), 0);
        Due.due("feed", x.feed(0x62617973, 0x20343b20, 0x20202020, 0x20202020, 0x20202020), 20);
        Due.due("read", x.read(), 0);
        Due.due("highest byte first", x.count(0), 4);
        for (int i = 1; i <= 100; i++) {
            Due.due("feed", x.feed(-1, -1, -1, -1, -1), 20 * i);
        }
        Due.due("a 101st feed", x.feed(1, 2, 3, 4, 5), -1);
        Due.due("tape", x.count(8), 2000);
        Due.due("back(1)", x.back(1), 1999);
        Due.due("19 too many", x.feed(1, 2, 3, 4, 5), -1);
        Due.due("back(18)", x.back(18), 1981);
        Due.due("one too many", x.feed(1, 2, 3, 4, 5), -1);
        Due.due("back(1)", x.back(1), 1980);
        Due.due("just room", x.feed(1, 2, 3, 4, 5), 2000);
        Due.due("back(2000)", x.back(2000), 0);
        Due.due("place", x.place(), -1);
    }

    static void tokens() {
        Due.fault("", 0, -1);
        Due.fault(" \t\r\n", 0, -1);
        Due.fault("bays3;list12;", 0, -1);
        Due.fault("pair abcdefgh if sort<=1and not 2!=3or(4)==5;", 0, -1);
        Due.fault("pair abcdefghi if 1<2;", 1, 5);
        Due.fault("list 9999;", 0, -1);
        Due.fault("list 12345;", 1, 5);
        Due.fault("list 00012;", 1, 5);
        Due.fault("list 0012;", 0, -1);
        Due.fault("pair a if 1 = 2;", 1, 12);
        Due.fault("pair a if 1 === 2;", 1, 14);
        Due.fault("pair a if 1 ! 2;", 1, 12);
        Due.fault("pair a if 1 < = 2;", 1, 14);
        Due.fault("pair a if 1 > 2;", 1, 12);
        Due.fault("Bays 3;", 1, 0);
        Due.fault("bays 3;\u00e9", 1, 7);
        Due.fault("bays 3;\0", 1, 7);
        Due.fault("bays 3;.", 1, 7);
        Due.fault("bays\f3;", 1, 4);
        Due.fault("notsort", 1, 0);
        Due.fault("place a if notsort<1;", 1, 11);
        Due.fault("place a2 if 1<2;", 1, 7);
        Due.fault("place sort if 1<2;", 1, 6);
        Due.fault("pair if if 1<2;", 1, 5);
        Due.fault("pair place if 1<2;", 1, 5);
        Due.fault("pair sorts if 1<2;", 0, -1);
    }

    static void syntax() {
        Due.fault("bays", 1, 4);
        Due.fault("bays  ", 1, 6);
        Due.fault("bays ;", 1, 5);
        Due.fault("bays 3", 1, 6);
        Due.fault("bays 3 4;", 1, 7);
        Due.fault("plug 1;", 1, 6);
        Due.fault("plug 1 2 3;", 1, 9);
        Due.fault("plug 1 2;", 0, -1);
        Due.fault(";", 1, 0);
        Due.fault("if", 1, 0);
        Due.fault("7", 1, 0);
        Due.fault("a", 1, 0);
        Due.fault("pair a 1<2;", 1, 7);
        Due.fault("pair a if ;", 1, 10);
        Due.fault("pair a if 1;", 1, 11);
        Due.fault("pair a if 1<2", 1, 13);
        Due.fault("pair a if 1<2<3;", 1, 13);
        Due.fault("pair a if 1<2 3;", 1, 14);
        Due.fault("pair a if (1<2);", 1, 12);
        Due.fault("pair a if (1;", 1, 12);
        Due.fault("pair a if 1)<2;", 1, 11);
        Due.fault("pair a if ()<2;", 1, 11);
        Due.fault("pair a if 1<not 2;", 1, 12);
        Due.fault("pair a if (not 2)<1;", 1, 11);
        Due.fault("pair a if -1<2;", 1, 10);
        Due.fault("pair a if 1+<2;", 1, 12);
        Due.fault("pair a if 1<2 and;", 1, 17);
        Due.fault("pair a if and 1<2;", 1, 10);
        Due.fault("pair a if not;", 1, 13);
        Due.fault("pair a if b<2;", 1, 10);
        Due.fault("pair a if 1<2 or not not ((1+2)*3)-4*(sort)==osort+otier and plugged<1;", 0, -1);
    }

    static void room() {
        String four = "plug 1 2;";
        Due.fault(Due.times(100, four), 0, -1);
        Due.fault(Due.times(100, four) + "bays 3;", 2, 900);
        Due.fault(Due.times(100, four) + "  bays", 2, 902);
        Due.fault(Due.times(100, four) + " ", 0, -1);
        Due.fault(Due.times(100, four) + "#", 1, 900);
        Due.fault(Due.times(100, four) + "7", 1, 900);
        Due.fault(Due.times(99, four) + "bays 3", 1, 897);
        Due.fault(Due.times(99, four) + "bays 3; plug", 0 + 1, 903);
        Due.fault(Due.times(99, four) + "bays 3; plug 1", 2, 904);
        StringBuilder pairs = new StringBuilder();
        StringBuilder places = new StringBuilder();
        for (int i = 0; i < 8; i++) {
            pairs.append("pair p").append((char) ('a' + i)).append(" if 1<2;");
            places.append("place q").append((char) ('a' + i)).append(" if 1<2;");
        }
        Due.fault(pairs.toString() + places, 0, -1);
        Due.fault(pairs + "pair", 2, pairs.length());
        Due.fault(pairs + "place", 1, pairs.length() + 5);
        Due.fault(pairs + " pair z if 1<2;", 2, pairs.length() + 1);
        Due.fault(places + "place z if 1<2;", 2, places.length());
        Due.fault("pair a if ((((((1))))))<2;", 0, -1);
        Due.fault("pair a if (((((((1)))))))<2;", 2, 16);
        Due.fault("pair a if (((((((1", 2, 16);
        Due.fault("pair a if (((((1)+((1)))))))<2;", 1, 27);
        Due.fault("pair a if ((((((1))))))<((((((2))))));", 0, -1);
        Due.fault("pair a if ((((((1)*(2)))))+(3))<4;", 0, -1);
        Due.fault("pair a if ((((((1+(2", 2, 18);
    }

    static void twiceAndWrong() {
        Due.fault("pair a if 1<2;pair a if 1<2;", 3, 19);
        Due.fault("pair a if 1<2;place a if 1<2;", 3, 20);
        Due.fault("place a if 1<2;pair b if 1<2;place b if 1<2;pair a if 1<2;", 3, 35);
        Due.fault("pair a if 1<2;pair aa if 1<2;", 0, -1);
        Due.fault("bays 1;", 5, 5);
        Due.fault("bays 6;", 5, 5);
        Due.fault("bays 2;bays 5;", 0, -1);
        Due.fault("bays 0;bays 3;", 5, 5);
        Due.fault("lift 0;", 5, 5);
        Due.fault("lift 0000;", 5, 5);
        Due.fault("lift 1;list 0;trim 0;bend 0;", 0, -1);
        Due.fault("plug 5 0;", 5, 5);
        Due.fault("plug 4 3;", 0, -1);
        Due.fault("plug 0 4;", 5, 7);
        Due.fault("plug 5 4;", 5, 5);
    }

    static void whichFirst() {
        Due.fault("bays 9;pair a if 1<2;pair a if 1<2;", 5, 5);
        Due.fault("pair a if 1<2;pair a if 1<2;bays 9;", 3, 19);
        Due.fault("bays 9;bays", 1, 11);
        Due.fault("pair a if 1<2;pair a if 1<2;#", 1, 28);
        Due.fault("bays 9; pair a if (((((((1)))))))<2;", 2, 24);
    }

    /** Texts of 2,000 bytes, which end in the midst of each kind of token, or at its end. */
    static void fullTape() {
        Due.fault(Due.times(2000, " "), 0, -1);
        Due.fault(Due.times(1993, " ") + "bays 3;", 0, -1);
        Due.fault(Due.times(1994, " ") + "bays 3", 1, 2000);
        Due.fault(Due.times(1996, " ") + "bays", 1, 2000);
        Due.fault(Due.times(1999, " ") + "b", 1, 1999);
        Due.fault(Due.times(1988, " ") + "pair a if 1<", 1, 2000);
        Due.fault(Due.times(1987, " ") + "pair a if 1<=", 1, 2000);
        Due.fault(Due.times(1988, " ") + "pair a if 1=", 1, 1999);
        Due.fault(Due.times(1988, " ") + "pair a if 1!", 1, 1999);
        Due.fault(Due.times(2000, "a"), 1, 0);
        Due.fault("bays " + Due.times(1995, "1"), 1, 5);
        // What an earlier tape had behind the end of this one does not count.
        BoxQuay x = new BoxQuay();
        Due.feed(x, "list 1234; trim 5;");
        x.back(10);
        Due.due("cut within an INT", x.count(8), 8);
        Due.due("read", x.read(), 1);
        Due.due("place", x.place(), 8);
    }

    static void whatIsTold() {
        BoxQuay x = new BoxQuay();
        Due.due("read", Due.read(x, "bays 2; list 5; trim 6; bend 7; lift 8; bays 4; list 9;"), 0);
        Due.due("bays", x.count(0), 4);
        Due.due("list", x.count(10), 9);
        Due.due("trim", x.count(11), 6);
        Due.due("bend", x.count(12), 7);
        Due.due("lift", x.count(13), 8);
        Due.due("a fault changes nothing", Due.read(x, "bays 2; list 1; pair a if 1<2; lift 0;"), 5);
        Due.due("place", x.place(), 36);
        Due.due("bays", x.count(0), 4);
        Due.due("list", x.count(10), 9);
        Due.due("pairs", x.count(1), 0);
        Due.due("read", Due.read(x, "pair a if 1<2; place b if 1<2; pair c if 1<2;"), 0);
        Due.due("place", x.place(), -1);
        Due.due("pairs", x.count(1), 2);
        Due.due("places", x.count(2), 1);
        Due.due("bays as if not told", x.count(0), 3);
        Due.due("list", x.count(10), 9999);
        Due.due("trim", x.count(11), 9999);
        Due.due("bend", x.count(12), 9999);
        Due.due("lift", x.count(13), 99);
        Due.due("an empty text", x.read(), 0);
        Due.due("pairs", x.count(1), 0);
    }

    static void whatStays() {
        BoxQuay x = new BoxQuay();
        Due.due("read", Due.read(x, "bays 5; list 77;"), 0);
        x.box(3, 0, 0);
        Due.due("load", x.load(0, 4, 1), 2);
        Due.due("jobLoad", x.jobLoad(0, 0, 0), 0);
        Due.due("a fault", Due.read(x, "bays"), 1);
        Due.due("place", x.place(), 4);
        Due.due("a bay less", Due.read(x, "bays 4;"), -3);
        Due.due("place", x.place(), -1);
        Due.due("tape", x.count(8), 0);
        Due.due("bays", x.count(0), 5);
        Due.due("list", x.count(10), 77);
        Due.due("jobs", x.count(14), 1);
        Due.due("at", x.at(4, 1, 2), 0);
        Due.due("not told: three", x.read(), -3);
        Due.due("the same bays", Due.read(x, "bays 5;"), 0);
        Due.due("jobs", x.count(14), 0);
        Due.due("unload", x.unload(4, 1, 0), 1);
        Due.due("now", Due.read(x, "bays 2;"), 0);
        Due.due("the box stays", x.of(0, 4), 2);
        Due.due("covers", x.count(9), 31);
    }
}
