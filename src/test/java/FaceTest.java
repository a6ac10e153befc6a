import java.io.IOException;
import java.lang.reflect.Constructor;
import java.lang.reflect.Field;
import java.lang.reflect.Method;
import java.lang.reflect.Modifier;
import java.nio.charset.StandardCharsets;
import java.nio.file.Files;
import java.nio.file.Path;
import java.util.ArrayList;
import java.util.Arrays;
import java.util.HashSet;
import java.util.List;
import java.util.Set;
import java.util.regex.Matcher;
import java.util.regex.Pattern;

/** The document's face, and those rules of LANGUAGE.md that can be seen in the source and the classes. */
public final class FaceTest {
    static final String[] FACE = {
        "int feed(int,int,int,int,int)", "int back(int)", "int read()", "int place()", "int box(int,int,int)",
        "boolean stuck(int,boolean)", "boolean cover(int,boolean)", "int store(int,int)", "int fetch(int)",
        "int load(int,int,int)", "int unload(int,int,int)", "int of(int,int)", "int at(int,int,int)", "int ship(int)",
        "int would(int,int,int,int)", "int pairs(int)", "int pair(int,int)", "int places(int)",
        "int breaks(int,int,int)", "int above(int)", "int overstows(int)", "int overstow(int,int)", "int covers(int)",
        "int ticks(int,int)", "int split(int)", "int lorry(int)", "int clear()", "int digs()", "int dig(int)",
        "int least()", "int leastDig(int)", "int blocked()", "int sight(int,int)", "int customs(int,boolean)",
        "int reading(int)", "int annul(int)", "int last(int,int)", "int path(int,int,int)", "int stopped(int,int)",
        "int agrees(int)", "int weighs(int,int)", "int suspects(int)", "int jobLoad(int,int,int)",
        "int jobUnload(int,int,int)", "int work(int)", "int job(int,int)", "int crane(int,int)",
        "boolean wind(int,int)", "boolean shifts(int,int)", "int tally(int,int,boolean,int)", "int mate(int,int)",
        "int alone(int,int)", "int odd(int)", "int lash(int)", "int gang(int,int)", "int best(int)",
        "int bestTwo(int,int)", "int count(int)"};
    static final String[] FORBIDDEN = {"\\bthrow\\b", "\\btry\\b", "\\bcatch\\b", "\\bsynchronized\\b", "\\bassert\\b",
        "->", "::", "\\bSystem\\.(?!arraycopy)", "\\bRandom\\b", "\\bThread\\b", "Exact\\b", "\\bfloat\\b",
        "\\bdouble\\b", "\\bprotected\\b", "\\bObject\\b", "\\bnew String\\[", "\\bInteger\\.M", "\\bpackage\\b"};

    static void need(String what, boolean is) {
        Due.due(what, is, true);
    }

    public static void main(String[] args) throws IOException {
        document();
        face();
        inside();
        source();
        Due.end();
    }

    /** That the list above is the document's own face, in its order. */
    static void document() throws IOException {
        String s = Files.readString(Path.of("../shared/DOC.md"), StandardCharsets.UTF_8);
        Matcher m = Pattern.compile("(?m)^    public ((?:int|boolean) \\w+\\(.*\\));$").matcher(s);
        List<String> told = new ArrayList<>();
        while (m.find()) {
            told.add(m.group(1).replaceAll("(int|boolean) \\w+(, |\\))", "$1$2").replace(", ", ","));
        }
        need("the document's face " + told, told.equals(Arrays.asList(FACE)));
    }

    static String told(Method m) {
        StringBuilder s = new StringBuilder(m.getReturnType().getName() + " " + m.getName() + "(");
        for (Class<?> c : m.getParameterTypes()) {
            s.append(s.charAt(s.length() - 1) == '(' ? "" : ",").append(c.getName());
        }
        return s.append(")").toString();
    }

    static void face() {
        Class<?> c = BoxQuay.class;
        need("public final class", Modifier.isPublic(c.getModifiers()) && Modifier.isFinal(c.getModifiers()));
        Due.due("NONE", BoxQuay.NONE, -1);
        Set<String> due = new HashSet<>(Arrays.asList(FACE));
        Due.due("58 methods", due.size(), 58);
        Set<String> names = new HashSet<>();
        for (Method m : c.getDeclaredMethods()) {
            if (Modifier.isPublic(m.getModifiers())) {
                need("a method of the face: " + told(m), due.remove(told(m)) && !Modifier.isStatic(m.getModifiers()));
                names.add(m.getName());
            } else {
                need(m + " is private", Modifier.isPrivate(m.getModifiers()));
            }
        }
        need("missing: " + due, due.isEmpty());
        for (Field f : c.getDeclaredFields()) {
            need(f + " is private", Modifier.isPrivate(f.getModifiers()) || f.getName().equals("NONE"));
        }
        Constructor<?>[] made = c.getDeclaredConstructors();
        need("one constructor", made.length == 1 && Modifier.isPublic(made[0].getModifiers())
                && made[0].getParameterCount() == 0);
        List<Class<?>> all = new ArrayList<>(List.of(c.getDeclaredClasses()));
        all.add(c);
        for (Class<?> k : all) {
            for (Method m : k.getDeclaredMethods()) {
                need("no name of the face: " + m, k == c && Modifier.isPublic(m.getModifiers())
                        || !names.contains(m.getName()));
            }
        }
    }

    static void inside() {
        Class<?>[] all = BoxQuay.class.getDeclaredClasses();
        need("at most twelve classes", all.length + 1 <= 12);
        for (Class<?> c : all) {
            need(c + " is static", Modifier.isStatic(c.getModifiers()));
            need(c + " is not public", !Modifier.isPublic(c.getModifiers()));
            int fields = 0;
            for (Field f : c.getDeclaredFields()) {
                if (Modifier.isStatic(f.getModifiers())) {
                    need(f + " is a constant", Modifier.isFinal(f.getModifiers()));
                } else {
                    fields++;
                }
            }
            need(c + " has at most twenty fields", fields <= 20);
            for (Method m : c.getDeclaredMethods()) {
                need(m + " takes at most seven", m.getParameterCount() <= 7);
            }
        }
    }

    static void source() throws IOException {
        String s = Files.readString(Path.of("src/main/java/BoxQuay.java"), StandardCharsets.ISO_8859_1);
        String bare = s.replaceAll("(?s)/\\*.*?\\*/", "").replaceAll("//[^\n]*", "");
        for (String f : FORBIDDEN) {
            Matcher m = Pattern.compile(f).matcher(bare);
            need("without " + f, !m.find());
        }
        Matcher imports = Pattern.compile("(?m)^import (.*);").matcher(bare);
        while (imports.find()) {
            need("import of " + imports.group(1), imports.group(1).equals("java.util.Arrays"));
        }
        for (int i = 0; i < s.length(); i++) {
            need("plain sign at " + i, s.charAt(i) == '\n' || s.charAt(i) >= 32 && s.charAt(i) < 127);
        }
        String[] lines = bare.split("\n");
        int from = 0;
        for (int i = 0; i < lines.length; i++) {
            if (lines[i].matches("( {4}| {8})[A-Za-z].*\\) \\{")) {
                from = i;
            }
            if (lines[i].matches("( {4}| {8})\\}")) {
                need("a short method at line " + i, i - from <= 60 || lines[i].startsWith("    }"));
            }
        }
    }
}
