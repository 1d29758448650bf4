import java.lang.reflect.Method;
import java.util.HashMap;
import java.util.Map;
import java.util.Random;

/** Long made-up runs of calls, each answer compared with the Model's. */
public final class RunsTest {
    private static final int RUNS = 400;
    private static final int CALLS = 512;

    // A method, how often it comes, and what kinds of numbers it takes.
    private static final String[] CALLED = {
        "type 4 text byte", "wipe 1 text", "undo 3 text", "fault 4 text",
        "ship 3 ship what1", "name 4 name what2", "line 6 line what3", "struck 6 mask",
        "loss 12 year ship6", "back 3", "read 4 sheet", "bearer 6 name what2",
        "borne 5 ship name", "unborne 5 ship", "left 8 year name", "behind 8 year what1",
        "paid 8 year ship", "first 6 what1", "safe 5", "take 5 ship", "strike 6 name name",
        "seen 6 ship6 paid", "forget 3", "sound 6 what1", "press 5", "fair 5 name what1",
        "storm 6 name had what1", "years 6 any span name what1", "sheet 6 sheet form size",
        "lose 1 sheet", "lay 14 sheet form item value", "get 12 sheet form item",
        "copy 8 sheet item sheet item size", "write 5 year sheet", "count 6 what8", "digest 1"
    };

    private static final Map<String, Integer> KINDS = new HashMap<>();
    static {
        String[] kinds = {"text 3", "byte 256", "ship6 6", "mask 256", "year 30", "sheet 4",
            "form 3", "had 100", "what1 2", "what2 3", "what3 4", "what8 9"};
        for (String kind : kinds) {
            String[] parts = kind.split(" ");
            KINDS.put(parts[0], Integer.parseInt(parts[1]));
        }
    }

    private final Random random;
    private final DrownedNames x = new DrownedNames();
    private final Model model = new Model();
    private final Map<String, Method> ofClass = new HashMap<>();
    private final Map<String, Method> ofModel = new HashMap<>();
    private final Check check;
    private final int run;
    private int calls;
    private int truth = 255;

    private RunsTest(int run, Check check) {
        this.run = run;
        this.check = check;
        this.random = new Random(run * 7919L + 11);
        for (Method m : DrownedNames.class.getDeclaredMethods()) {
            ofClass.put(m.getName(), m);
        }
        for (Method m : Model.class.getDeclaredMethods()) {
            if (java.lang.reflect.Modifier.isPublic(m.getModifiers())) {
                ofModel.put(m.getName(), m);
            }
        }
    }

    public static void main(String[] args) throws ReflectiveOperationException {
        Check check = new Check();
        for (int run = 0; run < RUNS; run++) {
            new RunsTest(run, check).go();
        }
        check.end();
    }

    private void go() throws ReflectiveOperationException {
        int ships = random.nextInt(10) == 0 ? 0 : 1 + random.nextInt(6);
        int names = random.nextInt(10) == 0 ? 0 : 1 + random.nextInt(8);
        int lines = random.nextInt(10) == 0 ? 0 : 1 + random.nextInt(12);
        write(0, ships(ships));
        write(1, names(names));
        write(2, lines(lines, ships, names));
        while (calls < CALLS - 1) {
            String[] parts = anyCall();
            if (parts[0].equals("forget")) {
                truth = random.nextInt(256) | random.nextInt(256);
            }
            if (parts[0].equals("seen") && random.nextInt(12) > 0) {
                seeTruly();
                continue;
            }
            Object[] numbers = new Object[parts.length - 2];
            for (int i = 0; i < numbers.length; i++) {
                numbers[i] = number(parts[i + 2]);
            }
            if (parts[0].equals("type") || parts[0].equals("undo") || parts[0].equals("wipe")) {
                change(parts[0], numbers);
            } else {
                call(parts[0], numbers);
            }
        }
        call("digest");
    }

    /** Changes a text, looks at it, and mostly mends it again: with a fault little is tested. */
    private void change(String name, Object[] numbers) throws ReflectiveOperationException {
        int text = (Integer) numbers[0];
        String had = model.textOf(text);
        if (name.equals("wipe") && random.nextInt(4) > 0) {
            return;
        }
        call(name, numbers);
        for (int t = 0; t < 3; t++) {
            call("fault", t);
            call("count", t);
        }
        call("behind", 29, 1);
        if (random.nextInt(40) == 0) {
            return;
        }
        String has = model.textOf(text);
        if (has.length() > had.length()) {
            call("undo", text);
        } else if (text == 2 || random.nextBoolean()) {
            write(text, had.substring(has.length()));
        } else {
            call("wipe", text);
            write(text, text == 0 ? ships(1 + random.nextInt(6)) : names(1 + random.nextInt(8)));
        }
    }

    private String[] anyCall() {
        int all = 0;
        for (String called : CALLED) {
            all += Integer.parseInt(called.split(" ")[1]);
        }
        int at = random.nextInt(all);
        for (String called : CALLED) {
            String[] parts = called.split(" ");
            at -= Integer.parseInt(parts[1]);
            if (at < 0) {
                return parts;
            }
        }
        throw new IllegalStateException();
    }

    private long call(String name, Object... numbers) throws ReflectiveOperationException {
        calls++;
        long got = ((Number) ofClass.get(name).invoke(x, numbers)).longValue();
        long want = ((Number) ofModel.get(name).invoke(model, numbers)).longValue();
        check.due("run " + run + " call " + calls + ": " + name
            + java.util.Arrays.toString(numbers), got, want);
        return want;
    }

    private void write(int text, String bytes) throws ReflectiveOperationException {
        for (int i = 0; i < bytes.length(); i++) {
            call("type", text, (int) bytes.charAt(i));
        }
    }

    /** So much was paid as one set of payers pays: else hardly any set were ever sound. */
    private void seeTruly() throws ReflectiveOperationException {
        int ship = random.nextInt(6);
        call("seen", ship, model.paidBy(ship, truth));
    }

    private int number(String kind) {
        if (random.nextInt(24) == 0) {
            int[] odd = {-1, -2, 1 << 31, 0x7fffffff, 256, 61, 1000, 30, 100, 6, 8, 12, 3, 4, 9, 2};
            return odd[random.nextInt(odd.length)];
        }
        switch (kind) {
            case "ship": return below(x.count(0));
            case "name": return below(x.count(1));
            case "line": return below(x.count(2));
            case "paid": return random.nextInt(4) == 0 ? random.nextInt(1001) : random.nextInt(40);
            case "any": return random.nextInt();
            case "span": return 1 + random.nextInt(random.nextBoolean() ? 4 : 30);
            case "size": return random.nextInt(random.nextInt(3) == 0 ? 61 : 12);
            case "item": return random.nextInt(random.nextInt(3) == 0 ? 62 : 9) - 1;
            case "value": return value();
            case "year": return random.nextInt(random.nextBoolean() ? 3 : 30);
            case "form": return random.nextInt(3) == 0 ? random.nextInt(3) : 1;
            case "mask": return random.nextBoolean() ? 0 : random.nextInt(256) & random.nextInt(256) & random.nextInt(256);
            case "byte": return random.nextInt(4) > 0 ? ";019aldh.5".charAt(random.nextInt(10))
                : random.nextInt(256);
            default: return random.nextInt(KINDS.get(kind));
        }
    }

    private int below(int count) {
        return random.nextInt(12) == 0 ? count : random.nextInt(Math.max(1, count));
    }

    private int value() {
        switch (random.nextInt(4)) {
            case 0: return random.nextInt();
            case 1: return random.nextInt(1 << 17) - (1 << 16);
            default: return random.nextInt(7);
        }
    }

    private String two(int least, int most) {
        int n = least + random.nextInt(most - least + 1);
        return "" + n / 10 + n % 10;
    }

    private String ships(int count) {
        StringBuilder text = new StringBuilder();
        for (int i = 0; i < count; i++) {
            text.append(i == 0 ? "" : ";").append(two(1, random.nextBoolean() ? 30 : 99))
                .append(random.nextInt(10));
        }
        return text.toString();
    }

    private String names(int count) {
        StringBuilder text = new StringBuilder();
        int links = random.nextInt(4);
        int range = Math.min(8, count + random.nextInt(2));
        for (int i = 0; i < count; i++) {
            text.append(i == 0 ? "" : ";").append(two(0, random.nextInt(3) > 0 ? 20 : 99))
                .append(random.nextInt(3) == 0 ? 'd' : 'l');
            text.append(random.nextInt(4) < links ? (char) ('a' + random.nextInt(range)) : '.');
        }
        return text.toString();
    }

    private String lines(int count, int ships, int names) {
        StringBuilder text = new StringBuilder();
        for (int i = 0; i < count; i++) {
            int ship = random.nextInt(10) == 0 ? random.nextInt(6) : random.nextInt(Math.max(ships, 1));
            int name = random.nextInt(10) == 0 ? random.nextInt(8) : random.nextInt(Math.max(names, 1));
            text.append(i == 0 ? "" : ";").append(ship).append((char) ('a' + name))
                .append(two(1, random.nextBoolean() ? 12 : 99));
        }
        return text.toString();
    }
}
