import java.nio.charset.StandardCharsets;

/** What every test needs: answers held against those that are due, and texts put on the tape. */
final class Due {
    private static int wrong;

    private Due() {
    }

    static void due(String call, long got, long want) {
        if (got != want) {
            wrong++;
            System.out.println(call + " answered " + got + ", due is " + want);
        }
    }

    static void due(String call, boolean got, boolean want) {
        due(call, got ? 1 : 0, want ? 1 : 0);
    }

    /** Puts a text behind the tape, byte by byte as it is. */
    static void feed(BoxQuay x, String text) {
        byte[] bytes = text.getBytes(StandardCharsets.ISO_8859_1);
        for (int at = 0; at < bytes.length; at += 20) {
            int[] word = new int[5];
            for (int k = 0; k < 20; k++) {
                int sign = at + k < bytes.length ? bytes[at + k] & 255 : 0;
                word[k / 4] |= sign << 24 - 8 * (k % 4);
            }
            x.feed(word[0], word[1], word[2], word[3], word[4]);
            if (at + 20 > bytes.length) {
                x.back(at + 20 - bytes.length);
            }
        }
    }

    static int read(BoxQuay x, String text) {
        feed(x, text);
        return x.read();
    }

    /** A text and the fault, and its place, that are due. */
    static void fault(String text, int fault, int place) {
        BoxQuay x = new BoxQuay();
        String shown = text.length() > 60 ? text.substring(0, 60) + ".." : text;
        due("read() of " + shown, read(x, text), fault);
        due("place() of " + shown, x.place(), place);
        due("tape behind " + shown, x.count(8), 0);
    }

    static String times(int n, String s) {
        return s.repeat(n);
    }

    static void end() {
        System.out.println(wrong == 0 ? "all answers are as due" : wrong + " answers are not as due");
        if (wrong != 0) {
            System.exit(1);
        }
    }
}
