import java.io.IOException;
import java.nio.charset.StandardCharsets;
import java.nio.file.Files;
import java.nio.file.Path;
import java.util.Arrays;
import java.util.List;
import java.util.regex.Matcher;
import java.util.regex.Pattern;

/** What of LANGUAGE.md can be told from the words of the program; started in the project's root. */
public final class LanguageTest {
    private static final Path FILE = Path.of("src/main/java/DrownedNames.java");
    private static final String[] BARRED = {
        "throw", "throws", "try", "catch", "finally", "synchronized", "assert", "native",
        "volatile", "transient", "protected", "package", "Object", "hashCode", "toString",
        "getClass", "Thread", "Runtime", "Random", "Exception", "Throwable", "enum", "var"
    };
    private static final List<String> LIBRARY = Arrays.asList(
        "System.arraycopy", "Arrays.fill", "Arrays.copyOf", "Arrays.copyOfRange", "Math.min",
        "Math.max", "Integer.bitCount");
    private static final int MOST_LINES = 60;
    private static final int MOST_PARAMETERS = 7;
    private static final int MOST_CLASSES = 12;
    private static final int MOST_FIELDS = 20;
    private static final Check CHECK = new Check();

    public static void main(String[] args) throws IOException {
        String code = bare(Files.readString(FILE, StandardCharsets.ISO_8859_1));
        CHECK.holds("all signs are 1 to 127", code.chars().allMatch(c -> c > 0 && c < 128));
        for (String word : BARRED) {
            CHECK.holds("no " + word, !Pattern.compile("\\b" + word + "\\b").matcher(code).find());
        }
        CHECK.holds("no lambda", !code.contains("->"));
        CHECK.holds("no method reference", !code.contains("::"));
        CHECK.holds("no object with a body of its own",
            !Pattern.compile("new\\s+\\w+\\([^;]*\\)\\s*\\{").matcher(code).find());
        imports(code);
        library(code);
        methods(code);
        classes();
        CHECK.end();
    }

    /** Without comments and texts. */
    private static String bare(String source) {
        return source.replaceAll("(?s)/\\*.*?\\*/", "").replaceAll("//[^\n]*", "")
            .replaceAll("\"[^\"\n]*\"", "\"\"").replaceAll("'[^'\n]+'", "' '");
    }

    private static void imports(String code) {
        Matcher m = Pattern.compile("import ([\\w.*]+);").matcher(code);
        while (m.find()) {
            CHECK.holds("import of " + m.group(1), m.group(1).equals("java.util.Arrays"));
        }
        CHECK.holds("no library by its full name", !code.replaceAll("import [^;]+;", "")
            .contains("java."));
    }

    private static void library(String code) {
        Matcher m = Pattern.compile("\\b(?:System|Arrays|Math|Integer|Long|Character|String|Byte"
            + "|Short|Boolean|Double)\\.\\w+").matcher(code);
        while (m.find()) {
            CHECK.holds("use of " + m.group(), LIBRARY.contains(m.group()));
        }
    }

    private static void methods(String code) {
        Matcher m = Pattern.compile("\n( ++)(?!new |return |else )[\\w<>\\[\\] ]+ \\w+"
            + "\\(([\\w\\s,\\[\\]]*)\\) \\{\n").matcher(code);
        int seen = 0;
        while (m.find()) {
            seen++;
            int end = code.indexOf("\n" + m.group(1) + "}\n", m.start());
            long lines = code.substring(m.start() + 1, end).chars().filter(c -> c == '\n').count();
            String head = m.group().trim();
            CHECK.holds(head + " is " + lines + " lines long", lines <= MOST_LINES);
            CHECK.holds(head + " takes too many", m.group(2).split(",").length <= MOST_PARAMETERS);
        }
        CHECK.holds("methods are found", seen > 80);
    }

    private static void classes() {
        Class<?>[] inside = DrownedNames.class.getDeclaredClasses();
        CHECK.holds("classes: " + inside.length, inside.length < MOST_CLASSES);
        fields(DrownedNames.class);
        for (Class<?> c : inside) {
            fields(c);
        }
    }

    private static void fields(Class<?> c) {
        long own = Arrays.stream(c.getDeclaredFields())
            .filter(f -> !java.lang.reflect.Modifier.isStatic(f.getModifiers())).count();
        CHECK.holds(c + " has " + own + " fields", own <= MOST_FIELDS);
    }
}
