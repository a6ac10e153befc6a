import java.io.IOException;
import java.nio.charset.StandardCharsets;
import java.nio.file.DirectoryStream;
import java.nio.file.Files;
import java.nio.file.Path;
import java.util.ArrayList;
import java.util.List;
import java.util.regex.Matcher;
import java.util.regex.Pattern;

/** That no promise, and no part of the terms, is left without sentences in the tests of edges. */
public final class EdgeCoverTest {
    public static void main(String[] args) throws IOException {
        List<String> told = sentences();
        need(told, "1:", 1);
        for (int i = 0; i < FaceTest.FACE.length; i++) {
            String face = FaceTest.FACE[i];
            String name = face.substring(face.indexOf(' ') + 1, face.indexOf('('));
            boolean takesNothing = face.endsWith("()");
            // What takes arguments has sentences on either side: what is answered, and what is refused.
            need(told, (i + 2) + " " + name + ":", takesNothing ? 1 : 2);
        }
        for (String part : new String[] {"I", "II", "III", "IV", "V", "VI", "VII"}) {
            need(told, part + ":", 2);
        }
        System.out.println(told.size() + " sentences");
        Due.end();
    }

    static void need(List<String> told, String begins, int due) {
        int n = 0;
        for (String sentence : told) {
            n += sentence.startsWith(begins) ? 1 : 0;
        }
        Due.due("at least " + due + " sentences of " + begins + " (" + n + ")", n >= due, true);
    }

    static List<String> sentences() throws IOException {
        List<String> all = new ArrayList<>();
        Pattern told = Pattern.compile("Edge\\.sentence\\(\"([^\"]*)\"\\)");
        try (DirectoryStream<Path> files = Files.newDirectoryStream(Path.of("src/test/java"), "Edge*Test.java")) {
            for (Path file : files) {
                Matcher m = told.matcher(Files.readString(file, StandardCharsets.UTF_8));
                while (m.find()) {
                    all.add(m.group(1));
                }
            }
        }
        return all;
    }
}
