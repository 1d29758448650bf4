/** Counts answers that are not the ones due, and types whole texts. */
final class Check {
    private static final int SHOWN = 40;
    private int wrong;
    private int asked;

    void due(String what, long got, long want) {
        asked++;
        if (got != want) {
            wrong(what + " answered " + got + ", due is " + want);
        }
    }

    void holds(String what, boolean is) {
        asked++;
        if (!is) {
            wrong(what);
        }
    }

    void end() {
        System.out.println(wrong == 0 ? "all " + asked + " checks hold" : wrong + " checks fail");
        if (wrong != 0) {
            System.exit(1);
        }
    }

    private void wrong(String what) {
        wrong++;
        if (wrong <= SHOWN) {
            System.out.println(what);
        }
    }

    static DrownedNames harbour(String ships, String names, String lines) {
        DrownedNames x = new DrownedNames();
        typed(x, 0, ships);
        typed(x, 1, names);
        typed(x, 2, lines);
        return x;
    }

    static void typed(DrownedNames x, int text, String bytes) {
        x.wipe(text);
        for (int i = 0; i < bytes.length(); i++) {
            x.type(text, bytes.charAt(i));
        }
    }
}
