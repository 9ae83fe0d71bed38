import java.io.IOException;
import java.lang.reflect.Method;
import java.lang.reflect.Modifier;
import java.net.URL;
import java.net.URLClassLoader;
import java.nio.file.Files;
import java.nio.file.Path;
import java.util.ArrayList;
import java.util.List;
import java.util.Set;
import java.util.TreeSet;
import java.util.regex.Matcher;
import java.util.regex.Pattern;
import java.util.stream.Stream;
import javax.tools.ToolProvider;

/** That README.md says of the calls what the document says and the class answers. */
public final class ReadmeTest {
    private static final Pattern ANSWERED = Pattern.compile("(mere\\.(\\w+)\\([^)]*\\));\\s*// (-?\\d+|BAD|NO|FULL|NONE)\\b.*");
    private static final Pattern WORD = Pattern.compile("\\b(BAD|NO|FULL|NONE)\\b");
    // In the order in which the document says which of several is answered.
    private static final String[] WORDS = {"BAD", "NO", "NONE", "FULL"};

    public static void main(String[] args) throws Exception {
        String page = Files.readString(Path.of("README.md"));
        theRun(page);
        theWords(page);
        theCalls(page, Files.readString(Path.of("../shared/DOC.md")));
        theTests(page);
        Due.end();
    }

    /** What the run that is made of the page calls for each of its answers. */
    public static void due(String call, int got, int want) {
        Due.is("README.md: " + call, got, want);
    }

    private static void theRun(String page) throws Exception {
        Set<String> left = new TreeSet<>(List.of(WORDS));
        for (Method m : SeamMere.class.getDeclaredMethods()) {
            if (Modifier.isPublic(m.getModifiers())) {
                left.add(m.getName());
            }
        }
        StringBuilder code = new StringBuilder("public final class Run {\npublic static void go() {\n");
        for (String line : between(page, "```java\n", "```").split("\n")) {
            Matcher m = ANSWERED.matcher(line);
            if (m.matches()) {
                left.remove(m.group(2));
                left.remove(m.group(3));
                code.append("ReadmeTest.due(\"").append(m.group(1).replace("\"", "\\\"")).append("\", ").append(m.group(1)).append(", ")
                    .append(m.group(3).matches("-?\\d+") ? "" : "SeamMere.").append(m.group(3)).append(");\n");
            } else {
                Due.is("README.md has an answer behind: " + line, line.startsWith("mere.") ? 1 : 0, 0);
                code.append(line).append('\n');
            }
        }
        Due.alike("not in the run of README.md", left.toString(), "[]");
        compileAndGo(code.append("}\n}\n").toString());
    }

    private static void compileAndGo(String code) throws Exception {
        Path room = Files.createTempDirectory("readme");
        Path source = room.resolve("Run.java");
        Files.writeString(source, code);
        int failed = ToolProvider.getSystemJavaCompiler().run(null, null, null,
            "-encoding", "UTF-8", "-cp", System.getProperty("java.class.path"), "-d", room.toString(), source.toString());
        Due.is("the run of README.md compiles", failed, 0);
        if (failed == 0) {
            try (URLClassLoader loader = new URLClassLoader(new URL[] {room.toUri().toURL()})) {
                loader.loadClass("Run").getMethod("go").invoke(null);
            }
        }
        remove(room);
    }

    private static void remove(Path room) throws IOException {
        for (String name : new String[] {"Run.class", "Run.java"}) {
            Files.deleteIfExists(room.resolve(name));
        }
        Files.delete(room);
    }

    /** The table of the four words has their numbers, in the document's order. */
    private static void theWords(String page) throws Exception {
        StringBuilder want = new StringBuilder();
        for (String word : WORDS) {
            want.append("| `SeamMere.").append(word).append("` | ").append(SeamMere.class.getField(word).getInt(null)).append(" |\n");
        }
        StringBuilder got = new StringBuilder();
        Matcher m = Pattern.compile("\\| `SeamMere\\.\\w+` \\| [^|]* \\|").matcher(page);
        while (m.find()) {
            got.append(m.group()).append('\n');
        }
        Due.alike("the words of README.md", got.toString(), want.toString());
    }

    /** The table of calls has those of the document, in its order, and with each call its BAD, NO, FULL and NONE. */
    private static void theCalls(String page, String document) {
        List<String> want = new ArrayList<>();
        Matcher promise = Pattern.compile("(?m)^`int (\\w+\\([^)]*\\))`: (.*)$").matcher(document);
        while (promise.find()) {
            want.add(promise.group(1) + " " + wordsOf(promise.group(2)));
        }
        Due.is("the calls of the document", want.size(), 28);
        List<String> got = new ArrayList<>();
        Matcher row = Pattern.compile("(?m)^\\| `(\\w+\\([^)]*\\))` \\|(.*)$").matcher(page);
        while (row.find()) {
            got.add(row.group(1) + " " + wordsOf(row.group(2)));
        }
        Due.alike("the calls of README.md", String.join("\n", got), String.join("\n", want));
    }

    private static Set<String> wordsOf(String line) {
        Set<String> words = new TreeSet<>();
        Matcher m = WORD.matcher(line);
        while (m.find()) {
            words.add(m.group());
        }
        return words;
    }

    /** The table of tests has each test that there is. */
    private static void theTests(String page) throws IOException {
        Set<String> want = new TreeSet<>();
        try (Stream<Path> files = Files.list(Path.of("src/test/java"))) {
            files.map(f -> f.getFileName().toString()).filter(n -> n.endsWith("Test.java"))
                .forEach(n -> want.add(n.substring(0, n.length() - 5)));
        }
        Set<String> got = new TreeSet<>();
        Matcher m = Pattern.compile("(?m)^\\| `(\\w+Test)` \\|").matcher(page);
        while (m.find()) {
            got.add(m.group(1));
        }
        Due.alike("the tests of README.md", got.toString(), want.toString());
    }

    private static String between(String page, String first, String last) {
        int from = page.indexOf(first);
        int to = page.indexOf(last, from + first.length());
        return from < 0 || to < 0 ? "" : page.substring(from + first.length(), to);
    }
}
