import java.lang.reflect.Executable;
import java.lang.reflect.Field;
import java.lang.reflect.Member;
import java.lang.reflect.Modifier;
import java.nio.file.Files;
import java.nio.file.Path;
import java.util.ArrayList;
import java.util.Arrays;
import java.util.List;
import java.util.Set;
import java.util.TreeSet;
import java.util.regex.Pattern;

/** The public face, no more and no fewer, and what of LANGUAGE.md can be seen from the class and its text. */
public final class FaceTest {
    private static final String[] FACE = {"BAD", "NO", "FULL", "NONE", "SeamMere()", "write(1)", "wipe(0)", "fault(0)", "lay(0)",
        "gap(2)", "stitcher(2)", "sky(2)", "together(2)", "send(2)", "pass(1)", "frog(1)", "undo(0)", "closes(1)", "dusk(0)",
        "order(3)", "deal(2)", "cut(2)", "between(2)", "joins(1)", "see(3)", "forget(0)", "seamed(1)", "tells(1)",
        "showers(4)", "summer(3)", "keep(0)", "back(0)", "count(1)"};

    public static void main(String[] args) throws Exception {
        face();
        for (Class<?> each : classes()) {
            inside(each);
        }
        language(Files.readString(Path.of("src/main/java/SeamMere.java")));
        Due.end();
    }

    private static boolean isOpen(Member m) {
        return !Modifier.isPrivate(m.getModifiers()) && !m.isSynthetic();
    }

    /** The class, and those inside it. */
    private static List<Class<?>> classes() {
        List<Class<?>> all = new ArrayList<>();
        all.add(SeamMere.class);
        all.addAll(Arrays.asList(SeamMere.class.getDeclaredClasses()));
        return all;
    }

    private static void face() {
        Set<String> got = new TreeSet<>();
        Arrays.stream(SeamMere.class.getDeclaredFields()).filter(FaceTest::isOpen).forEach(f -> got.add(f.getName()));
        Arrays.stream(SeamMere.class.getDeclaredConstructors()).filter(FaceTest::isOpen).forEach(c -> got.add("SeamMere()"));
        Arrays.stream(SeamMere.class.getDeclaredMethods()).filter(FaceTest::isOpen)
            .forEach(m -> got.add(m.getName() + "(" + m.getParameterCount() + ")"));
        Due.alike("the face", got.toString(), new TreeSet<>(Arrays.asList(FACE)).toString());
        Due.is("final", Modifier.isFinal(SeamMere.class.getModifiers()) ? 1 : 0, 1);
        Due.is("some twelve classes: " + classes().size(), classes().size() <= 15 ? 1 : 0, 1);
    }

    /** Rules 1, 5 and 11 for one class. */
    private static void inside(Class<?> each) {
        int open = each.getModifiers() & (Modifier.PUBLIC | Modifier.PROTECTED);
        Due.is(each + " is open", open == 0 || each == SeamMere.class ? 1 : 0, 1);
        int own = 0;
        for (Field f : each.getDeclaredFields()) {
            boolean constant = Modifier.isStatic(f.getModifiers());
            own += constant || f.isSynthetic() ? 0 : 1;
            Due.is(f + " is final", !constant || f.isSynthetic() || Modifier.isFinal(f.getModifiers()) ? 1 : 0, 1);
        }
        Due.is(each + " has some twenty fields: " + own, own <= 25 ? 1 : 0, 1);
        List<Executable> calls = new ArrayList<>(Arrays.asList(each.getDeclaredMethods()));
        calls.addAll(Arrays.asList(each.getDeclaredConstructors()));
        for (Executable call : calls) {
            Due.is(call + " takes seven at most", call.getParameterCount() <= 7 ? 1 : 0, 1);
            boolean anew = !isOpen(call) && Arrays.stream(FACE).anyMatch(f -> f.startsWith(call.getName() + "("));
            Due.is(call + " bears a public name", anew ? 1 : 0, 0);
        }
    }

    /** What the rules forbid by a word that can be looked for. */
    private static void language(String source) {
        String code = source.replaceAll("(?s)/\\*.*?\\*/", "").replaceAll("//[^\n]*", "").replaceAll("\"[^\"]*\"", "\"\"")
            .replaceAll("(case [^;{}]*?|default)\\s*->", "");
        String[] never = {"->", "::", "\\bpackage ", "import (?!java\\.util\\.)", "\\bfinally\\b", "\\bsynchronized\\b", "\\bassert\\b",
            "try \\(", "System\\.(?!arraycopy)", "\\+ \"\"", "\"\" \\+", "Exact\\(", "hashCode", "getMessage", "static \\{",
            "(NullPointer|ClassCast|ArrayIndex|NegativeArray|ArrayStore)\\w* \\w+\\) \\{"};
        for (String word : never) {
            Due.is("LANGUAGE.md has no '" + word + "'", Pattern.compile(word).matcher(code).find() ? 1 : 0, 0);
        }
    }
}
