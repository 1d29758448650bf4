import java.util.ArrayList;
import java.util.List;

/**
 * The passage "Refusals": what each number of each call may be, up to its bounds and not beyond;
 * which refusal comes first; and that a refused call changes nothing (a finding but count() 8).
 */
public final class RefusalsTest {
    private static final int NONE_FOUND = 0;
    private static final long BAD = -2, BAD_AMONG_NUMBERS = -1002, LEAST_INT = Integer.MIN_VALUE;
    private static final long BAD_LONG = Long.MIN_VALUE + 2;
    private static final Check CHECK = new Check();

    /** Nothing has been told. */
    private static final String NEW = "";

    /** Two ships, three names, four lines; all kinds of sheets, one lost; the latest finding is 4. */
    private static final String SOME = """
        ships 204;993
        names 20lb;15d.;30l.
        lines 0a10;0c15;1b09;1c05
        struck 8
        loss 3 0
        loss 2 1
        loss 1 5
        seen 0 20
        seen 5 0
        sheet 0 0 4
        sheet 1 1 5
        sheet 2 2 60
        lay 0 0 3 -7
        lay 1 1 0 300
        lay 1 1 1 1
        lay 1 1 4 -300
        lay 2 2 0 70000
        lay 2 2 59 29
        copy 0 0 1 0 1
        """;

    /** All texts, losses and what was seen are full; the latest finding is 1. */
    private static final String FULL = """
        ships 109;208;307;406;505;604
        names 10lb;20l.;30dc;40lf;50ld;60la;70l.;80dh
        lines 0a10;1b09;2c08;3d07;4e06;5f05;0g04;1h03;2a02;3b01;4c10;5d20
        11 x loss 4 1
        loss 3 5
        7 x seen 0 14
        seen 1 12
        sheet 0 0 60
        sheet 1 1 0
        sheet 2 2 1
        read 3
        """;

    /** How many items the sheets 0 to 2 have then, of the forms 0 to 2; sheet 3 is lost. */
    private static final int[] ITEMS_OF_SOME = {4, 5, 60}, ITEMS_OF_FULL = {60, 0, 1};

    // A call with numbers that it takes in SOME, and of each number the least and the most that it
    // takes: * is no bound.
    private static final String[] CALLS = {
        "type 0 48: 0..2 0..255", "wipe 0: 0..2", "undo 0: 0..2", "fault 0: 0..2",
        "ship 0 0: 0..1 0..1", "name 0 0: 0..2 0..2", "line 0 0: 0..3 0..3", "struck 0: 0..255",
        "loss 0 0: 0..29 0..5", "read 0: 0..3", "bearer 0 0: 0..2 0..2", "borne 0 0: 0..1 0..2",
        "unborne 0: 0..1", "left 0 0: 0..29 0..2", "behind 0 0: 0..29 0..1",
        "paid 0 0: 0..29 0..1", "first 0: 0..1", "take 0: 0..1", "strike 0 0: 0..2 0..2",
        "seen 0 0: 0..5 0..999", "sound 0: 0..1", "fair 0 0: 0..2 0..1",
        "storm 0 0 0: 0..2 0..99 0..1", "years 7 9 0 0: *..* 1..30 0..2 0..1",
        "sheet 0 0 5: 0..3 0..2 *..60", "lose 0: 0..3", "lay 0 0 0 5: 0..3 0..2 *..* *..*",
        "get 0 0 0: 0..3 0..2 *..*", "copy 0 0 0 1 2: 0..3 *..* 0..3 *..* *..*",
        "write 0 0: 0..29 0..3", "count 0: 0..8"
    };

    // The refusals that are no BAD, with what is found; and those that come ahead of another.
    private static final String[] OF_NEW = {
        "undo 0 = -3", "undo 1 = -3", "undo 2 = -3", "undo 3 = -2", "back = -3",
        "read 0 = -11 1", "read 3 = -11 1", "read 4 = -2", "lose 0 = -11 1", "lose 3 = -11 1",
        "lay 0 0 0 0 = -11 1", "lay 0 3 0 0 = -2", "get 0 0 0 = least 1", "get 0 3 0 = least",
        "copy 0 0 1 0 0 = -11 1", "copy 0 0 4 0 0 = -2", "copy 4 0 0 0 0 = -2",
        "write 0 0 = -11 1", "write 30 0 = -2", "sheet 0 0 -1 = -15 5", "sheet 4 0 -1 = -2",
        "sheet 0 3 -1 = -2", "ship 0 0 = -2", "name 0 0 = -2", "line 0 0 = -2",
        "bearer 0 0 = -2", "borne 0 0 = -2", "unborne 0 = -2", "left 0 0 = -2", "paid 0 0 = -2",
        "take 0 = -2", "strike 0 0 = -1002", "fair 0 0 = BADlong", "storm 0 0 0 = BADlong",
        "years 0 1 0 0 = -2"
    };
    private static final String[] OF_SOME = {
        "read 3 = -11 1", "lose 3 = -11 1", "write 0 3 = -11 1", "write 30 3 = -2",
        "write -1 3 = -2", "sheet 1 0 -1 = -15 5", "sheet 1 0 least = -15 5", "sheet 3 0 -1 = -15 5",
        "sheet 1 3 -1 = -2", "sheet 4 1 -1 = -2", "sheet 4 1 61 = -2",
        "lay 3 0 0 1 = -11 1", "lay 3 0 -1 1 = -11 1", "lay 3 3 0 1 = -2",
        "lay 1 0 0 1 = -13 3", "lay 1 2 5 1 = -13 3", "lay 1 1 5 1 = -12 2", "lay 1 1 -1 1 = -12 2",
        "lay 1 1 least 1 = -12 2", "lay 1 1 most 1 = -12 2", "lay 2 2 60 1 = -12 2",
        "get 3 0 0 = least 1", "get 3 0 -1 = least 1", "get 3 3 0 = least", "get 1 0 0 = least 3",
        "get 1 2 5 = least 3", "get 1 1 5 = least 2", "get 1 1 -1 = least 2",
        "get 1 1 least = least 2", "get 1 1 most = least 2", "get 2 2 60 = least 2",
        "copy 3 0 1 0 1 = -11 1", "copy 1 0 3 0 1 = -11 1", "copy 3 -1 1 0 1 = -11 1",
        "copy 3 0 4 0 1 = -2", "copy 4 0 3 0 1 = -2", "copy 1 0 2 0 1 = -14 4",
        "copy 1 0 2 0 0 = -14 4", "copy 1 9 2 0 -1 = -14 4", "copy 1 -1 1 0 1 = -12 2",
        "copy 1 0 1 -1 1 = -12 2", "copy 1 0 1 0 -1 = -12 2", "copy 1 0 1 0 6 = -12 2",
        "copy 1 1 1 0 5 = -12 2", "copy 1 0 1 1 5 = -12 2", "copy 1 6 1 0 0 = -12 2",
        "copy 1 0 1 6 0 = -12 2", "copy 1 5 1 0 1 = -12 2", "copy 1 0 1 5 1 = -12 2",
        "copy 1 2 1 2 most = -12 2", "copy 1 most 1 0 1 = -12 2", "copy 1 0 1 most 1 = -12 2",
        "copy 1 least 1 0 1 = -12 2", "copy 1 0 1 least 1 = -12 2", "copy 1 0 1 0 least = -12 2"
    };
    private static final String[] OF_FULL = {
        "type 0 48 = -4", "type 0 59 = -4", "type 1 48 = -4", "type 2 48 = -4", "type 0 256 = -2",
        "type 0 -1 = -2", "type 3 48 = -2", "loss 0 0 = -4", "loss 29 5 = -4", "loss 30 0 = -2",
        "loss 0 6 = -2", "loss -1 0 = -2", "loss 0 -1 = -2", "seen 0 0 = -4", "seen 5 999 = -4",
        "seen 6 0 = -2", "seen 0 1000 = -2", "seen -1 0 = -2", "seen 0 -1 = -2", "read 3 = -11 1",
        "lay 1 1 0 0 = -12 2", "lay 2 2 1 0 = -12 2", "get 1 1 0 = least 2", "sheet 2 2 -1 = -15 5",
        "copy 1 0 1 0 1 = -12 2", "copy 0 1 0 0 60 = -12 2", "copy 0 0 2 0 1 = -14 4",
        "ship 6 0 = -2", "name 8 0 = -2", "line 12 0 = -2", "strike 0 8 = -1002",
        "strike 8 0 = -1002", "years 0 31 0 0 = -2", "years 0 0 0 0 = -2", "years 0 1 8 0 = -2",
        "fair 8 0 = BADlong", "storm 0 100 0 = BADlong", "take 6 = -2", "borne 6 0 = -2"
    };

    public static void main(String[] args) {
        bounds();
        told("a new object", NEW, new int[0], NONE_FOUND, OF_NEW);
        told("an object in use", SOME, ITEMS_OF_SOME, 4, OF_SOME);
        told("a full object", FULL, ITEMS_OF_FULL, 1, OF_FULL);
        snapshotsTell();
        CHECK.end();
    }

    private static Script after(String state) {
        Script x = new Script(CHECK);
        x.run("ahead of a refusal", state);
        return x;
    }

    private static void bounds() {
        for (String call : CALLS) {
            String[] sides = call.split(": ");
            String[] words = sides[0].split(" ");
            String[] ranges = sides[1].split(" ");
            CHECK.holds(call + " names all its numbers", words.length == ranges.length + 1);
            for (int i = 0; i < ranges.length; i++) {
                boundsOfOne(words, i + 1, ranges[i].split("\\.\\."));
            }
        }
    }

    private static void boundsOfOne(String[] words, int place, String[] range) {
        long refusal = refusalOf(words[0]);
        List<String> within = new ArrayList<>();
        List<String> beyond = new ArrayList<>();
        if (range[0].equals("*")) {
            within.add("least");
            within.add("-1");
        } else {
            within.add(range[0]);
            beyond.add("least");
            beyond.add("" + (Integer.parseInt(range[0]) - 1));
        }
        if (range[1].equals("*")) {
            within.add("most");
        } else {
            within.add(range[1]);
            beyond.add("most");
            beyond.add("" + (Integer.parseInt(range[1]) + 1));
        }
        for (String number : within) {
            if (!words[0].equals("get")) {
                String call = with(words, place, number);
                CHECK.holds(call + " is no such number", after(SOME).call(call) != refusal);
            }
        }
        for (String number : beyond) {
            refused("an object in use", SOME, ITEMS_OF_SOME, with(words, place, number), refusal, 4);
        }
    }

    private static long refusalOf(String name) {
        switch (name) {
            case "strike": return BAD_AMONG_NUMBERS;
            case "get": return LEAST_INT;
            case "fair": case "storm": return BAD_LONG;
            default: return BAD;
        }
    }

    private static String with(String[] words, int place, String number) {
        String[] others = words.clone();
        others[place] = number;
        return String.join(" ", others);
    }

    private static void told(String whose, String state, int[] items, int found, String... refusals) {
        for (String refusal : refusals) {
            String[] sides = refusal.split(" = ");
            String[] answer = sides[1].split(" ");
            long want = answer[0].equals("least") ? LEAST_INT
                : answer[0].equals("BADlong") ? BAD_LONG : Long.parseLong(answer[0]);
            int finding = answer.length > 1 ? Integer.parseInt(answer[1]) : found;
            refused(whose, state, items, sides[0], want, finding);
        }
    }

    /** The call is refused so, with this finding the latest then, and all else stays. */
    private static void refused(
            String whose, String state, int[] items, String call, long want, int finding) {
        Script x = after(state);
        CHECK.due("of " + whose + ": " + call, x.call(call), want);
        CHECK.due("of " + whose + ": " + call + ", found", x.call("count 8"), finding);
        CHECK.holds("of " + whose + ": " + call + " changes nothing",
            snapshot(x, items).equals(snapshot(after(state), items)));
    }

    /** What an object tells of all but its latest finding; what was told comes to an end by it. */
    private static List<Long> snapshot(Script x, int[] items) {
        List<Long> all = new ArrayList<>();
        for (int what = 0; what <= 7; what++) {
            all.add(x.call("count " + what));
        }
        all.add(x.call("digest"));
        for (int s = 0; s < items.length; s++) {
            for (int i = 0; i < items[s]; i++) {
                all.add(x.call("get " + s + " " + s + " " + i));
            }
        }
        for (int s = 0; s <= 3; s++) {
            all.add(x.call("lose " + s));
        }
        all.add(x.call("struck 0"));
        for (long left = all.get(6); left >= 0; left--) {
            all.add(x.call("behind 29 1"));
            all.add(x.call("first 0"));
            all.add(x.call("back"));
        }
        all.add(x.call("forget"));
        all.add(x.call("digest"));
        return all;
    }

    /** A snapshot tells each kind of change: else it would prove nothing. */
    private static void snapshotsTell() {
        String[] changes = {
            "undo 0", "undo 1", "undo 2", "type 0 48", "type 1 48", "type 2 48", "struck 0", "back",
            "loss 0 0", "loss 29 5", "seen 0 20", "forget", "sheet 3 0 0", "sheet 0 0 4",
            "sheet 2 2 60", "lose 0", "lay 0 0 0 1", "lay 1 1 4 1", "lay 2 2 59 1",
            "copy 1 0 1 1 4", "write 9 0"
        };
        for (String change : changes) {
            Script x = after(SOME);
            x.call(change);
            CHECK.holds("a snapshot tells " + change,
                !snapshot(x, ITEMS_OF_SOME).equals(snapshot(after(SOME), ITEMS_OF_SOME)));
        }
    }
}
