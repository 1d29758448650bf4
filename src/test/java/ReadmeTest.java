import java.io.IOException;
import java.lang.reflect.Method;
import java.net.URL;
import java.net.URLClassLoader;
import java.nio.charset.StandardCharsets;
import java.nio.file.Files;
import java.nio.file.Path;
import java.util.Comparator;
import java.util.List;
import java.util.regex.Matcher;
import java.util.regex.Pattern;
import java.util.stream.Collectors;
import java.util.stream.Stream;
import javax.tools.JavaCompiler;
import javax.tools.ToolProvider;

/** What README.md says holds; started in the project's root, as the others are. */
public final class ReadmeTest {
    private static final Path README = Path.of("README.md");
    private static final Path DOCUMENT = Path.of("../shared/DOC.md");
    private static final Path TESTS = Path.of("src/test/java");
    private static final Pattern PIECE = Pattern.compile("(?s)```java\n(.*?)```");
    private static final Pattern ANSWERED =
        Pattern.compile("(x\\.\\w+\\(.*\\)); *// (-?\\d+|NONE|BAD|NOT|FULL)(:.*)?");
    private static final Pattern FACE = Pattern.compile(" {4}public (?:int|long) (\\w+\\(.*\\));");
    private static final Check CHECK = new Check();

    /** What the pieces of Java hand their answers to. */
    public static void due(String call, long got, long want) {
        CHECK.due("README.md: " + call, got, want);
    }

    public static void main(String[] args) throws Exception {
        String page = Files.readString(README, StandardCharsets.UTF_8);
        callsHaveRows(page);
        testsAreNamed(page);
        run(program(page));
        CHECK.end();
    }

    private static void callsHaveRows(String page) throws IOException {
        Matcher m = FACE.matcher(Files.readString(DOCUMENT, StandardCharsets.UTF_8));
        int calls = 0;
        while (m.find()) {
            String call = m.group(1).replaceAll("\\bint ", "");
            CHECK.holds("README.md has no row for " + call, page.contains("\n| `" + call + "` | "));
            CHECK.holds("README.md shows no answer of " + call,
                page.contains("x." + call.replaceAll("\\(.*", "(")));
            calls++;
        }
        CHECK.due("calls of the document's face", calls, 36);
    }

    private static void testsAreNamed(String page) throws IOException {
        List<String> tests;
        try (Stream<Path> files = Files.list(TESTS)) {
            tests = files.map(f -> f.getFileName().toString().replace(".java", ""))
                .filter(name -> name.endsWith("Test")).collect(Collectors.toList());
        }
        for (String test : tests) {
            CHECK.holds("README.md does not name " + test, page.contains("`" + test + "`"));
        }
    }

    /** The page's pieces as one class: functions first, then all else in its order. */
    private static String program(String page) {
        StringBuilder functions = new StringBuilder();
        StringBuilder steps = new StringBuilder();
        Matcher m = PIECE.matcher(page);
        while (m.find()) {
            if (m.group(1).startsWith("static ")) {
                functions.append(m.group(1));
            } else {
                m.group(1).lines().forEach(line -> steps.append(step(line)).append('\n'));
            }
        }
        return "public final class Mine {\n" + functions + "public static void main(String[] args) {\n"
            + steps + "}\n}\n";
    }

    private static String step(String line) {
        Matcher m = ANSWERED.matcher(line);
        if (!m.matches()) {
            CHECK.holds("README.md has no answer in: " + line, !line.startsWith("x."));
            return line;
        }
        String want = m.group(2).matches("[A-Z]+") ? "DrownedNames." + m.group(2) : m.group(2) + "L";
        return "ReadmeTest.due(\"" + m.group(1) + "\", " + m.group(1) + ", " + want + ");";
    }

    private static void run(String program) throws Exception {
        Path made = Files.createTempDirectory("readme");
        try {
            Path file = Files.writeString(made.resolve("Mine.java"), program);
            JavaCompiler compiler = ToolProvider.getSystemJavaCompiler();
            boolean compiles = compiler != null && compiler.run(null, null, null, "-d",
                made.toString(), "-cp", System.getProperty("java.class.path"), file.toString()) == 0;
            CHECK.holds("the Java of README.md does not compile", compiles);
            if (compiles) {
                start(made);
            }
        } finally {
            remove(made);
        }
    }

    private static void start(Path made) throws Exception {
        URL[] places = {made.toUri().toURL()};
        try (URLClassLoader loader = new URLClassLoader(places, ReadmeTest.class.getClassLoader())) {
            Method main = loader.loadClass("Mine").getMethod("main", String[].class);
            main.invoke(null, (Object) new String[0]);
        }
    }

    private static void remove(Path made) throws IOException {
        List<Path> files;
        try (Stream<Path> all = Files.walk(made)) {
            files = all.sorted(Comparator.reverseOrder()).collect(Collectors.toList());
        }
        for (Path file : files) {
            Files.delete(file);
        }
    }
}
