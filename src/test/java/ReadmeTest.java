import java.io.IOException;
import java.net.URL;
import java.net.URLClassLoader;
import java.nio.charset.StandardCharsets;
import java.nio.file.Files;
import java.nio.file.Path;
import java.util.ArrayList;
import java.util.List;
import java.util.regex.Matcher;
import java.util.regex.Pattern;
import javax.tools.ToolProvider;

/** That README.md's own lines compile, and answer what stands behind them. */
public final class ReadmeTest {
    static final Pattern BLOCK = Pattern.compile("(?s)```java\n(.*?)```");
    static final Pattern ANSWER = Pattern.compile("(int|boolean) (\\w+) = .*; +// (-?\\d+|true|false)\\b.*");

    public static void main(String[] args) throws IOException, ReflectiveOperationException {
        Path folder = Files.createTempDirectory("readme");
        Path source = folder.resolve("ReadmeLines.java");
        try {
            Files.writeString(source, program(), StandardCharsets.UTF_8);
            int made = ToolProvider.getSystemJavaCompiler().run(null, null, null, "-cp",
                    System.getProperty("java.class.path"), "-d", folder.toString(), source.toString());
            Due.due("README's lines compile", made, 0);
            if (made == 0) {
                run(folder);
            }
        } finally {
            Files.deleteIfExists(folder.resolve("ReadmeLines.class"));
            Files.deleteIfExists(source);
            Files.deleteIfExists(folder);
        }
        Due.end();
    }

    static void run(Path folder) throws ReflectiveOperationException, IOException {
        // Of each answer: its name, the answer, and the one that is due.
        List<String> held = new ArrayList<>();
        try (URLClassLoader loader = new URLClassLoader(new URL[] {folder.toUri().toURL()},
                ReadmeTest.class.getClassLoader())) {
            loader.loadClass("ReadmeLines").getMethod("lines", List.class).invoke(null, held);
        }
        for (String row : held) {
            String[] part = row.split("\t");
            Due.due("README: " + part[0] + " (" + part[1] + ", told is " + part[2] + ")", part[1].equals(part[2]), true);
        }
        Due.due("README has answers (" + held.size() + ")", held.size() >= 20, true);
    }

    /** A class of README's blocks: those with methods as they stand, the lines of the others in one method. */
    static String program() throws IOException {
        String page = Files.readString(Path.of("README.md"), StandardCharsets.UTF_8);
        StringBuilder methods = new StringBuilder("public final class ReadmeLines {\n");
        StringBuilder lines = new StringBuilder("public static void lines(java.util.List<String> held) {\n");
        Matcher blocks = BLOCK.matcher(page);
        while (blocks.find()) {
            if (blocks.group(1).startsWith("static ")) {
                methods.append(blocks.group(1));
                continue;
            }
            for (String line : blocks.group(1).split("\n")) {
                lines.append(line).append('\n');
                Matcher m = ANSWER.matcher(line);
                if (m.matches()) {
                    lines.append("held.add(\"").append(m.group(2)).append("\\t\" + ").append(m.group(2))
                            .append(" + \"\\t").append(m.group(3)).append("\");\n");
                }
            }
        }
        return methods.append(lines).append("}\n}\n").toString();
    }
}
