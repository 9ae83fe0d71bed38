import java.lang.reflect.Member;
import java.lang.reflect.Modifier;
import java.nio.file.Files;
import java.nio.file.Path;
import java.util.ArrayList;
import java.util.Arrays;
import java.util.List;
import java.util.Set;
import java.util.TreeSet;
import java.util.regex.Matcher;
import java.util.regex.Pattern;

/** The public face, no more and no fewer, and what of LANGUAGE.md can be seen from the text. */
public final class FaceTest {
    private static final String[] FACE = {"BAD", "NO", "FULL", "NONE", "SeamMere()", "write(1)", "wipe(0)", "fault(0)", "lay(0)",
        "gap(2)", "stitcher(2)", "sky(2)", "together(2)", "send(2)", "pass(1)", "frog(1)", "undo(0)", "closes(1)", "dusk(0)",
        "order(3)", "deal(2)", "cut(2)", "between(2)", "joins(1)", "see(3)", "forget(0)", "seamed(1)", "tells(1)",
        "showers(4)", "summer(3)", "keep(0)", "back(0)", "count(1)"};

    public static void main(String[] args) throws Exception {
        face();
        Path source = Path.of(System.getProperty("source", "src/main/java/SeamMere.java"));
        language(Files.readString(source));
        Due.end();
    }

    private static boolean isOpen(Member m) {
        return !Modifier.isPrivate(m.getModifiers()) && !m.isSynthetic();
    }

    private static void face() {
        Set<String> got = new TreeSet<>();
        Arrays.stream(SeamMere.class.getDeclaredFields()).filter(FaceTest::isOpen).forEach(f -> got.add(f.getName()));
        Arrays.stream(SeamMere.class.getDeclaredConstructors()).filter(FaceTest::isOpen).forEach(c -> got.add("SeamMere()"));
        Arrays.stream(SeamMere.class.getDeclaredMethods()).filter(FaceTest::isOpen)
            .forEach(m -> got.add(m.getName() + "(" + m.getParameterCount() + ")"));
        Set<String> want = new TreeSet<>(Arrays.asList(FACE));
        Due.is("the face " + got, got.equals(want) ? 1 : 0, 1);
        Due.is("final", Modifier.isFinal(SeamMere.class.getModifiers()) ? 1 : 0, 1);
        List<Class<?>> all = new ArrayList<>(Arrays.asList(SeamMere.class.getDeclaredClasses()));
        Due.is("some twelve classes", all.size() < 12 ? 1 : 0, 1);
        for (Class<?> inside : all) {
            Due.is(inside + " is static", Modifier.isStatic(inside.getModifiers()) ? 1 : 0, 1);
            Arrays.stream(inside.getDeclaredMethods()).forEach(m ->
                Due.is(inside + " names anew " + m.getName(), named(m.getName()), 0));
        }
        Arrays.stream(SeamMere.class.getDeclaredMethods()).filter(m -> !isOpen(m)).forEach(m ->
            Due.is("private " + m.getName(), named(m.getName()), 0));
    }

    private static int named(String name) {
        return (int) Arrays.stream(FACE).filter(f -> f.startsWith(name + "(")).count();
    }

    private static void language(String source) {
        String code = source.replaceAll("(?s)/\\*.*?\\*/", "").replaceAll("//[^\n]*", "").replaceAll("\"[^\"]*\"", "\"\"");
        String[] never = {"->", "::", "import ", "package ", "catch", "throw", "finally", "synchronized", "assert", "System.",
            "\\+ \"\"", "\"\" \\+", "var ", "Exact\\(", "hashCode", "toString", "double ", "float ", "static \\{", "record "};
        for (String word : never) {
            Matcher m = Pattern.compile(word).matcher(code);
            Due.is("LANGUAGE.md has no '" + word + "'", m.find() ? 1 : 0, 0);
        }
        // Rows are read by at() and set by setAt(), which look at the index first; these few look at it themselves.
        Matcher index = Pattern.compile("\\w+\\[[^\\]]+\\]").matcher(code);
        Set<String> indexed = new TreeSet<>();
        while (index.find()) {
            indexed.add(index.group().replaceAll("\\[.*", ""));
        }
        indexed.remove("int");
        indexed.remove("Standing");
        Due.is("rows indexed in the open: " + indexed, indexed.equals(new TreeSet<>(Arrays.asList("row", "behind", "standings",
            "setsByPair", "gapRow", "stitcherRow"))) ? 1 : 0, 1);
    }
}
