import java.lang.reflect.InvocationTargetException;
import java.lang.reflect.Method;
import java.util.HashMap;
import java.util.Map;

/**
 * Calls told in words, a line each, on an object that is new for each script:
 *
 * <pre>
 * ships 101;202          text 0 is this (so are names and lines; without a text it is empty)
 * 11 x loss 0 0          eleven calls whose answers are not looked at
 * loss 0 0 = 12          a call and the answer that is due
 * new                    another object
 * </pre>
 *
 * A # begins a remark. Some numbers have names; they are below.
 */
final class Script {
    private static final int MOST_CALLS = 512;
    private static final Map<String, Long> NUMBERS = new HashMap<>();
    private static final Map<String, Method> METHODS = new HashMap<>();

    static {
        NUMBERS.put("NONE", -1L);
        NUMBERS.put("BAD", -2L);
        NUMBERS.put("NOT", -3L);
        NUMBERS.put("FULL", -4L);
        NUMBERS.put("NULL", -11L);
        NUMBERS.put("INDEX", -12L);
        NUMBERS.put("CAST", -13L);
        NUMBERS.put("STORE", -14L);
        NUMBERS.put("SIZE", -15L);
        NUMBERS.put("least", (long) Integer.MIN_VALUE);
        NUMBERS.put("most", (long) Integer.MAX_VALUE);
        NUMBERS.put("BADlong", Long.MIN_VALUE + 2);
        for (Method method : DrownedNames.class.getDeclaredMethods()) {
            METHODS.put(method.getName(), method);
        }
    }

    private final Check check;
    private DrownedNames x;
    private int calls;

    Script(Check check) {
        this.check = check;
        begin();
    }

    /** Runs what shows that a sentence of the document holds. */
    static void says(Check check, String sentence, String script) {
        new Script(check).run(sentence, script);
    }

    void run(String sentence, String script) {
        for (String line : script.split("\n")) {
            String told = line.replaceAll("#.*", "").trim();
            if (!told.isEmpty()) {
                step(sentence, told);
            }
        }
    }

    private void begin() {
        x = new DrownedNames();
        calls = 0;
    }

    private void step(String sentence, String told) {
        String[] sides = told.split(" = ");
        String[] words = sides[0].trim().split(" +");
        if (words[0].equals("new")) {
            begin();
        } else if (words[0].equals("ships")) {
            retype(0, words);
        } else if (words[0].equals("names")) {
            retype(1, words);
        } else if (words[0].equals("lines")) {
            retype(2, words);
        } else if (words.length > 1 && words[1].equals("x")) {
            String call = sides[0].trim().substring((words[0] + " x ").length());
            for (int i = Integer.parseInt(words[0]); i > 0; i--) {
                call(call);
            }
        } else if (sides.length == 1) {
            call(told);
        } else {
            check.due("'" + sentence + "': " + sides[0].trim(), call(sides[0].trim()),
                number(sides[1].trim()));
        }
    }

    private void retype(int text, String[] words) {
        call("wipe " + text);
        String bytes = words.length > 1 ? words[1] : "";
        for (int i = 0; i < bytes.length(); i++) {
            call("type " + text + " " + (int) bytes.charAt(i));
        }
    }

    long call(String told) {
        calls++;
        if (calls > MOST_CALLS) {
            throw new IllegalStateException("an object is used for too many calls: " + told);
        }
        String[] words = told.split(" +");
        Method method = METHODS.get(words[0]);
        if (method == null) {
            throw new IllegalStateException("no such call: " + told);
        }
        Object[] numbers = new Object[words.length - 1];
        for (int i = 0; i < numbers.length; i++) {
            numbers[i] = (int) number(words[i + 1]);
        }
        try {
            return ((Number) method.invoke(x, numbers)).longValue();
        } catch (IllegalAccessException | InvocationTargetException e) {
            throw new IllegalStateException(told + " threw " + e.getCause(), e);
        }
    }

    private static long number(String word) {
        return NUMBERS.containsKey(word) ? NUMBERS.get(word) : Long.parseLong(word);
    }
}
