/** Each promise by itself, with answers worked out by hand from the document. */
public final class PromisesTest {
    private static final int LEAST_INT = Integer.MIN_VALUE;
    private static final long BAD_LONG = Long.MIN_VALUE + 2;
    private static final int[] ODD = {-1, LEAST_INT, Integer.MAX_VALUE};
    private static final Check CHECK = new Check();

    public static void main(String[] args) {
        promise1();
        promises2to4();
        promise5();
        promises6and7();
        promise8();
        promise9();
        promises10to12();
        promise13();
        promises14and15();
        promises16to19();
        promise19order();
        promise20();
        promise21();
        promise22();
        promises23to26();
        promise26();
        promise27();
        promise28();
        promise29();
        promises30and31();
        promises32and33();
        promise34();
        promise35();
        promise36();
        promise37();
        CHECK.end();
    }

    private static void due(String what, long got, long want) {
        CHECK.due(what, got, want);
    }

    /** A ring of a and b, c for itself, d behind c, e drowned behind d; two ships, overfull and not. */
    private static DrownedNames ring() {
        return Check.harbour("204;990", "10lb;20la;08l.;30lc;40dd",
            "0a10;0c10;0e20;1d30;1b09;1e05");
    }

    private static void promise1() {
        DrownedNames x = new DrownedNames();
        for (int what = 0; what <= 8; what++) {
            due("1: count(" + what + ")", x.count(what), 0);
        }
        for (int s = 0; s <= 3; s++) {
            due("1: lose(" + s + ")", x.lose(s), -11);
        }
        due("1: struck(0)", x.struck(0), 0);
        DrownedNames y = new DrownedNames();
        y.type(0, '1');
        due("1: two objects share nothing", x.count(3), 0);
    }

    private static void promises2to4() {
        int[] room = {23, 39, 59};
        for (int text = 0; text <= 2; text++) {
            DrownedNames x = new DrownedNames();
            for (int odd : new int[] {-1, 256, LEAST_INT, Integer.MAX_VALUE}) {
                due("2: type of no byte", x.type(text, odd), -2);
            }
            due("4: undo of nothing", x.undo(text), -3);
            for (int n = 1; n <= room[text]; n++) {
                due("2: type", x.type(text, n == 1 ? 255 : 0), n);
            }
            due("2: type, no room", x.type(text, 48), -4);
            due("2: type, no byte ahead of no room", x.type(text, 256), -2);
            due("2: bytes", x.count(3 + text), room[text]);
            due("4: undo", x.undo(text), room[text] - 1);
            due("2: type again", x.type(text, 0), room[text]);
            due("3: wipe", x.wipe(text), room[text]);
            due("3: wipe again", x.wipe(text), 0);
            due("4: undo behind wipe", x.undo(text), -3);
            due("2: type behind wipe", x.type(text, 48), 1);
            due("4: undo the only one", x.undo(text), 0);
        }
        DrownedNames x = new DrownedNames();
        for (int text : new int[] {-1, 3, LEAST_INT, Integer.MAX_VALUE}) {
            due("2: type, no text", x.type(text, 0), -2);
            due("3: wipe, no text", x.wipe(text), -2);
            due("4: undo, no text", x.undo(text), -2);
            due("5: fault, no text", x.fault(text), -2);
        }
        Check.typed(x, 0, "301;102");
        due("3: ships ahead of wipe", x.count(0), 2);
        x.undo(0);
        due("4: a fault as behind undo", x.count(0), 0);
        x.wipe(0);
        due("3: no ships behind wipe", x.count(0), 0);
    }

    private static void fault(int text, String bytes, int want) {
        DrownedNames x = new DrownedNames();
        Check.typed(x, text, bytes);
        due("5: fault of '" + bytes + "'", x.fault(text), want);
        int items = want == -1 && !bytes.isEmpty() ? bytes.split(";").length : 0;
        due("5: things in '" + bytes + "'", x.count(text), items);
    }

    private static void promise5() {
        fault(0, "", -1);
        fault(0, "0", 1);
        fault(0, "00", 1);
        fault(0, "01", 2);
        fault(0, "010", -1);
        fault(0, "100", -1);
        fault(0, "999;", 4);
        fault(0, "999:", 3);
        fault(0, "999;0", 5);
        fault(0, "999;00", 5);
        fault(0, "999;01/", 6);
        fault(0, ":99", 0);
        fault(0, "/99", 0);
        fault(0, "9:9", 1);
        fault(0, ";", 0);
        fault(0, "9999", 3);
        fault(0, "013;013;013;013;013;013", -1);
        fault(0, "013;013;013;013;013;01", 22);
        fault(1, "", -1);
        fault(1, "00l.", -1);
        fault(1, "99da", -1);
        fault(1, "99lh", -1);
        fault(1, "99li", 3);
        fault(1, "99l`", 3);
        fault(1, "99l/", 3);
        fault(1, "99L.", 2);
        fault(1, "99e.", 2);
        fault(1, "9", 1);
        fault(1, "a9l.", 0);
        fault(1, "99l", 3);
        fault(1, "99l.;", 5);
        fault(1, "99l. ", 4);
        fault(1, "00l.;00l.;00l.;00l.;00l.;00l.;00l.;00d.", -1);
        fault(2, "", -1);
        fault(2, "0a01", -1);
        fault(2, "5h99", -1);
        fault(2, "6h99", 0);
        fault(2, "/h99", 0);
        fault(2, "5i99", 1);
        fault(2, "5`99", 1);
        fault(2, "5a00", 3);
        fault(2, "5a0", 3);
        fault(2, "5a10", -1);
        fault(2, "5a10;0a00;", 8);
        fault(2, "5a10;", 5);
        fault(2, "5aa1", 2);
        fault(2, "0a01;0a01;0a01;0a01;0a01;0a01;0a01;0a01;0a01;0a01;0a01;0a01", -1);
    }

    private static void promises6and7() {
        DrownedNames x = Check.harbour("010;999;507", "00l.;99dh;07lb", "");
        int[][] ships = {{1, 0}, {99, 9}, {50, 7}};
        for (int s = 0; s < 3; s++) {
            due("6: worth", x.ship(s, 0), ships[s][0]);
            due("6: risk", x.ship(s, 1), ships[s][1]);
            due("6: no such thing of it", x.ship(s, 2), -2);
            due("6: no such thing of it", x.ship(s, -1), -2);
        }
        int[][] names = {{0, 0, -1}, {99, 1, 7}, {7, 0, 1}};
        for (int n = 0; n < 3; n++) {
            for (int what = 0; what < 3; what++) {
                due("7: name", x.name(n, what), names[n][what]);
            }
            due("7: no such thing of it", x.name(n, 3), -2);
            due("7: no such thing of it", x.name(n, -1), -2);
        }
        for (int odd : new int[] {-1, 3, LEAST_INT, Integer.MAX_VALUE}) {
            due("6: no ship", x.ship(odd, 0), -2);
            due("7: no name", x.name(odd, 0), -2);
        }
    }

    private static void promise8() {
        DrownedNames x = ring();
        // Of ship 0, 40 are taken, and it is worth 20: half of each. Of ship 1, 44 of 99.
        int[][] lines = {
            {0, 0, 10, 5}, {0, 2, 10, 5}, {0, 4, 20, 10}, {1, 3, 30, 30}, {1, 1, 9, 9}, {1, 4, 5, 5}
        };
        for (int l = 0; l < lines.length; l++) {
            for (int what = 0; what < 4; what++) {
                due("8: line(" + l + ", " + what + ")", x.line(l, what), lines[l][what]);
            }
            due("8: no such thing of it", x.line(l, 4), -2);
            due("8: no such thing of it", x.line(l, -1), -2);
        }
        for (int odd : new int[] {-1, 6, LEAST_INT, Integer.MAX_VALUE}) {
            due("8: no line", x.line(odd, 0), -2);
        }
        x = Check.harbour("103", "50l.;50l.", "0a07;0b07;0c90;1a05;0a01");
        due("8: due is cut", x.line(0, 3), 4);
        due("8: due is cut", x.line(1, 3), 4);
        due("8: due of no name", x.line(2, 3), 0);
        due("8: due of no ship", x.line(3, 3), 0);
        due("8: due may be cut to nothing", x.line(4, 3), 0);
        due("8: a name that there is not", x.line(2, 1), 2);
        x = Check.harbour("103", "50l.", "0a04;0a06");
        due("8: no more than its worth", x.line(0, 3), 4);
    }

    private static void promise9() {
        DrownedNames x = ring();
        for (int odd : new int[] {-1, 256, LEAST_INT, Integer.MAX_VALUE}) {
            due("9: struck, no set", x.struck(odd), -2);
        }
        due("9: struck", x.struck(2), 0);
        due("9: nobody stands behind one struck", x.bearer(0, 0), 0);
        due("9: a struck one still stands behind another", x.bearer(1, 0), 0);
        due("9: a line of one struck is void", x.line(4, 3), 0);
        due("9: struck", x.struck(16 + 128), 2);
        due("9: a void line leaves the others", x.line(0, 3), 10);
        due("9: struck", x.struck(0), 144);
        due("9: none", x.line(0, 3), 5);
        due("9: the ring again", x.bearer(0, 0), -1);
        due("9: all, names or not", x.struck(255), 0);
        due("9: as told", x.struck(0), 255);
    }

    private static void promises10to12() {
        DrownedNames x = Check.harbour("101;101", "99l.", "0a10;1a10");
        for (int odd : ODD) {
            due("10: no year", x.loss(odd, 0), -2);
            due("10: no ship", x.loss(0, odd), -2);
            due("12: no sheet", x.read(odd), -2);
        }
        due("10: no year", x.loss(30, 0), -2);
        due("10: no ship", x.loss(0, 6), -2);
        due("11: none", x.back(), -3);
        due("10: of ships that there are not, too", x.loss(29, 5), 1);
        for (int n = 2; n <= 12; n++) {
            due("10: loss", x.loss(0, 0), n);
        }
        due("10: no room", x.loss(0, 0), -4);
        due("10: no year ahead of no room", x.loss(30, 0), -2);
        due("10: lost", x.behind(29, 1), 1);
        for (int n = 11; n >= 0; n--) {
            due("11: back", x.back(), n);
        }
        due("11: none", x.back(), -3);
        due("11: undone", x.behind(29, 1), 0);
        promise12(x);
    }

    private static void promise12(DrownedNames x) {
        due("12: lost", x.read(0), -11);
        due("12: the finding", x.count(8), 1);
        due("12: no sheet", x.read(4), -2);
        x.sheet(0, 1, 7);
        int[] items = {3, 1, 2, 0, 29, 5, 4};
        for (int i = 0; i < items.length; i++) {
            x.lay(0, 1, i, items[i]);
        }
        due("12: whole ones", x.read(0), 3);
        due("12: losses", x.count(6), 3);
        due("12: ship 0 in year 2", x.behind(2, 1), 1);
        due("12: ship 1 in year 3", x.behind(3, 1), 3);
        x.lay(0, 1, 2, 30);
        due("12: up to one that may not be: its year", x.read(0), 1);
        x.lay(0, 1, 2, 2);
        x.lay(0, 1, 3, 6);
        due("12: up to one that may not be: its ship", x.read(0), 1);
        x.lay(0, 1, 0, -1);
        due("12: the first may not be", x.read(0), 0);
        x.sheet(1, 0, 60);
        due("12: up to the room", x.read(1), 7);
        due("12: no room", x.read(1), 0);
        due("12: losses", x.count(6), 12);
        x.sheet(2, 2, 1);
        due("11: back", x.back(), 11);
        due("12: none whole", x.read(2), 0);
        x.sheet(2, 2, 0);
        due("12: no items", x.read(2), 0);
    }

    private static void promise13() {
        DrownedNames x = ring();
        int[][] bearers = {{-1, 0, 1}, {-1, 0, 1}, {2, 28, 0}, {2, 0, 0}, {2, 0, 0}};
        for (int n = 0; n < 5; n++) {
            for (int what = 0; what < 3; what++) {
                due("13: bearer(" + n + ", " + what + ")", x.bearer(n, what), bearers[n][what]);
            }
            due("13: no such thing of it", x.bearer(n, 3), -2);
            due("13: no such thing of it", x.bearer(n, -1), -2);
        }
        for (int odd : new int[] {-1, 5, LEAST_INT, Integer.MAX_VALUE}) {
            due("13: no name", x.bearer(odd, 0), -2);
        }
        x.struck(8);
        due("13: behind a struck one, itself", x.bearer(4, 0), 4);
        due("13: of a struck one", x.bearer(3, 0), 2);
        due("13: for a struck one, too", x.bearer(2, 1), 12);
        x = Check.harbour("", "01la;01lh;01ld;01le;01lc", "");
        due("13: behind itself", x.bearer(0, 0), 0);
        due("13: behind itself is no ring", x.bearer(0, 2), 0);
        due("13: behind one that there is not", x.bearer(1, 0), 1);
        due("13: a ring of three", x.bearer(3, 0), -1);
        x = Check.harbour("", "01lb;01lc;01ld;01le;01lf;01lg;01lh;01l.", "");
        due("13: the longest chain", x.bearer(0, 0), 7);
        due("13: for all", x.bearer(7, 1), 255);
        x = Check.harbour("", "01lb;01lc;01ld;01le;01lf;01lg;01lh;01lg", "");
        due("13: behind a ring", x.bearer(0, 2), 1);
        x.struck(128);
        due("13: a ring that is struck through", x.bearer(0, 0), 6);
    }

    private static void promises14and15() {
        DrownedNames x = ring();
        int[][] borne = {{0, 0, 15, 0, 0}, {0, 0, 35, 0, 0}};
        for (int s = 0; s < 2; s++) {
            for (int n = 0; n < 5; n++) {
                due("14: borne(" + s + ", " + n + ")", x.borne(s, n), borne[s][n]);
            }
        }
        due("15: unborne(0)", x.unborne(0), 5);
        due("15: unborne(1)", x.unborne(1), 9);
        for (int odd : new int[] {-1, 2, LEAST_INT, Integer.MAX_VALUE}) {
            due("14: no ship", x.borne(odd, 0), -2);
            due("15: no ship", x.unborne(odd), -2);
        }
        for (int odd : new int[] {-1, 5, LEAST_INT, Integer.MAX_VALUE}) {
            due("14: no name", x.borne(0, odd), -2);
        }
        x.struck(1);
        due("15: no ring is left", x.unborne(1), 0);
        due("14: b for itself", x.borne(1, 1), 9);
        due("14: 30 of 30 are taken, 20 worth", x.borne(0, 2), 6 + 13);
    }

    private static void promises16to19() {
        DrownedNames x = ring();
        x.loss(4, 1);
        x.loss(2, 0);
        x.loss(3, 0);
        x.loss(4, 3);
        // Year 2: c pays 5 and, of 10, the 3 that it has left, and breaks; the ring pays nothing.
        due("16: left(1, 2)", x.left(1, 2), 8);
        due("16: left(2, 2)", x.left(2, 2), 0);
        due("16: left(29, 0)", x.left(29, 0), 10);
        due("16: the drowned who stands behind", x.left(29, 4), 40);
        due("17: behind(1, 0)", x.behind(1, 0), 0);
        due("17: behind(2, 0)", x.behind(2, 0), 4);
        due("17: behind(29, 0)", x.behind(29, 0), 4);
        due("17: behind(1, 1)", x.behind(1, 1), 0);
        due("17: behind(3, 1)", x.behind(3, 1), 1);
        due("17: behind(4, 1)", x.behind(4, 1), 3);
        due("18: paid(1, 0)", x.paid(1, 0), 0);
        due("18: paid(2, 0)", x.paid(2, 0), 8);
        due("18: paid(29, 1)", x.paid(29, 1), 0);
        due("19: first(0)", x.first(0), 2);
        due("19: first(1)", x.first(1), 2);
        for (int odd : ODD) {
            due("16: no year", x.left(odd, 0), -2);
            due("16: no name", x.left(0, odd), -2);
            due("17: no year", x.behind(odd, 0), -2);
            due("17: no such thing", x.behind(0, odd), -2);
            due("18: no year", x.paid(odd, 0), -2);
            due("18: no ship", x.paid(0, odd), -2);
            due("19: no such thing", x.first(odd), -2);
        }
        due("16: no year", x.left(30, 0), -2);
        due("16: no name", x.left(0, 5), -2);
        due("17: no year", x.behind(30, 0), -2);
        due("17: no such thing", x.behind(0, 2), -2);
        due("18: no year", x.paid(30, 0), -2);
        due("18: no ship", x.paid(0, 2), -2);
        due("19: no such thing", x.first(2), -2);
    }

    private static void promise19order() {
        // In a year, as told: had ship 0 come first, a had broken.
        DrownedNames x = Check.harbour("201;201", "20l.;05l.;05d.", "0a11;0b05;1a10;1b06;1c09");
        x.loss(7, 1);
        x.loss(7, 0);
        due("18: told first", x.paid(7, 1), 8 + 4 + 5);
        due("18: told next", x.paid(7, 0), 11 + 1);
        due("19: b first", x.first(1), 1);
        due("17: the drowned never break", x.behind(7, 0), 2);
        x.wipe(2);
        due("19: nobody", x.first(0), -1);
        due("19: nobody", x.first(1), -1);
        due("16: all again", x.left(29, 0), 20);
        // Of a ship, the least year; of that, the first told.
        Check.typed(x, 2, "0a15;1a15");
        x.loss(5, 0);
        due("18: the year told later is less", x.paid(5, 0), 15);
        due("18: what was told first is nothing", x.paid(7, 1), 5);
        x.back();
        x.back();
        x.back();
        x.loss(3, 1);
        x.loss(3, 0);
        x.loss(3, 1);
        due("18: the first told of that year", x.paid(3, 1), 15);
        due("18: once alone", x.left(29, 0), 0);
        // One pays with all that it has and does not break; one with nothing left does.
        x = Check.harbour("100;100;100", "10l.;00l.", "0a10;1a01;2b01");
        x.loss(0, 0);
        due("16: all", x.left(0, 0), 0);
        due("17: not broken", x.behind(0, 0), 0);
        x.loss(29, 1);
        x.loss(28, 2);
        due("17: broken", x.behind(29, 0), 3);
        due("19: the first", x.first(1), 1);
        due("19: its year", x.first(0), 28);
        due("17: YEARS in their order", x.behind(28, 0), 2);
        x.struck(2);
        due("19: of the others", x.first(1), 0);
        x.struck(0);
        // Two break in one year: the first in it.
        x.back();
        x.loss(29, 2);
        due("19: the first in it", x.first(1), 0);
        // A line cut to nothing breaks nobody, even one with nothing.
        x = Check.harbour("010", "00l.;00d.", "0a50;0b50");
        x.loss(0, 0);
        due("17: nothing due", x.behind(0, 0), 0);
    }

    private static void promise20() {
        DrownedNames none = new DrownedNames();
        due("20: no ships", none.safe(), 0);
        DrownedNames x = Check.harbour("100;200;300;400", "10l.;05d.;15l.",
            "0a10;1a05;1a06;2b30;3c10;3c05");
        due("20: safe", x.safe(), 1 + 4 + 8);
        x.loss(0, 0);
        due("20: by what all have at first", x.safe(), 1 + 4 + 8);
        x.struck(1);
        due("20: the struck owe nothing", x.safe(), 15);
    }

    private static void promise21() {
        DrownedNames x = Check.harbour("300;500;990;010", "20l.;15da;40d.;05l.;10lb;30l.", "");
        due("21: one that has exactly so much", x.take(0), 32);
        due("21: of like ones the least bits: 40 and 10, not 20 and 30", x.take(1), 4 + 16);
        due("21: four that have 100", x.take(2), 1 + 4 + 16 + 32);
        due("21: of one, that has least", x.take(3), 8);
        x.struck(32);
        due("21: not struck", x.take(0), 4);
        due("21: not enough", x.take(2), -1);
        x.struck(255);
        due("21: all struck", x.take(3), -1);
        x = Check.harbour("100", "10l.;10l.;05l.;05l.", "");
        due("21: of like ones the least bits", x.take(0), 1);
        x = Check.harbour("180", "09l.;10l.;09l.;08l.;09l.", "");
        due("21: two with least", x.take(0), 3 - 2 + 4);
        x = Check.harbour("990", "", "");
        due("21: no names", x.take(0), -1);
        for (int odd : new int[] {-1, 1, LEAST_INT, Integer.MAX_VALUE}) {
            due("21: no ship", x.take(odd), -2);
        }
        x = Check.harbour("010", "00l.", "");
        due("21: nobody has any", x.take(0), -1);
    }

    private static void promise22() {
        DrownedNames x = ring();
        // Without a: no ring, b bears 9; of ship 0, 30 are taken of 20: c bears 6 and 13.
        due("22: strike(1, 0)", x.strike(1, 0), 9);
        due("22: strike(2, 0)", x.strike(2, 0), 4);
        due("22: strike(2, 4)", x.strike(2, 4), 10 + 30 - 50);
        due("22: strike(3, 2)", x.strike(3, 2), 13 + 35);
        due("22: itself", x.strike(2, 2), -50);
        due("22: itself, for nobody", x.strike(0, 0), 0);
        due("22: nothing is struck", x.struck(0), 0);
        due("22: nothing has changed", x.borne(1, 2), 35);
        x.struck(4);
        due("22: struck already", x.strike(3, 2), 0);
        due("22: too", x.strike(3, 4), 30 - (13 + 35));
        due("22: struck as ahead", x.struck(0), 4);
        for (int odd : new int[] {-1, 5, LEAST_INT, Integer.MAX_VALUE}) {
            due("22: no name", x.strike(odd, 0), -1002);
            due("22: no other", x.strike(0, odd), -1002);
        }
    }

    private static void promises23to26() {
        DrownedNames x = Check.harbour("201;301;101", "10l.;10l.;10d.",
            "0a08;0b04;1b12;1c05;2a03;2b03;2c03");
        for (int odd : ODD) {
            due("23: no ship", x.seen(odd, 0), -2);
            due("23: not so much", x.seen(0, odd), -2);
            due("25: no such thing", x.sound(odd), -2);
        }
        due("23: no ship", x.seen(6, 0), -2);
        due("23: too much", x.seen(0, 1000), -2);
        due("25: no such thing", x.sound(2), -2);
        due("25: nothing seen: all", x.sound(0), 8);
        due("25: nothing seen: none", x.sound(1), 0);
        // Ship 0: 0, 8, 4, 12, twice each; ship 1: 0, 10, 5, 15, twice each; ship 2: by threes.
        due("26: the least of like ones", x.press(), 0);
        due("23: seen", x.seen(2, 6), 1);
        due("25: two of three", x.sound(0), 3);
        due("25: a and b", x.sound(1), 3);
        due("26: ship 0 tells all apart", x.press(), 0);
        due("23: seen", x.seen(0, 8), 2);
        due("25: one", x.sound(0), 1);
        due("25: a and c", x.sound(1), 5);
        due("23: seen", x.seen(0, 4), 3);
        due("25: none", x.sound(0), 0);
        due("25: none", x.sound(1), -1);
        due("26: of none", x.press(), 0);
        due("24: forget", x.forget(), 3);
        due("24: again", x.forget(), 0);
        due("24: all", x.sound(0), 8);
        x.seen(5, 0);
        due("25: of no ship nothing is paid", x.sound(0), 8);
        x.seen(5, 1);
        due("25: of no ship nothing is paid", x.sound(0), 0);
        x.forget();
        x.loss(0, 1);
        x.seen(1, 10);
        due("25: b pays all that it had at first", x.sound(1), 2);
        due("25: with a or not", x.sound(0), 2);
        for (int n = 2; n <= 8; n++) {
            due("23: seen", x.seen(1, 999), n);
        }
        due("23: no room", x.seen(0, 0), -4);
        due("23: no ship ahead of no room", x.seen(6, 0), -2);
        due("24: eight", x.forget(), 8);
    }

    private static void promise26() {
        DrownedNames x = Check.harbour("201;301;101", "10l.;10l.;10d.",
            "0a08;0b08;1b12;1c05;2a03;2b03;2c03");
        // Ship 0: 0, 8, 8, 16: four alike; ship 1: two alike; ship 2: 0, 3, 6, 9: three alike.
        due("26: the least of the greatest", x.press(), 1);
        x.seen(1, 15);
        due("26: ship 0 tells a apart, so does ship 2", x.press(), 0);
        x.struck(1);
        due("26: a no longer pays", x.press(), 0);
        x.wipe(1);
        due("26: no names, nothing fits", x.sound(0), 0);
        due("26: no names", x.press(), 0);
        x.wipe(0);
        due("26: no ships", x.press(), -1);
        x.forget();
        due("25: the empty set alone", x.sound(0), 1);
        due("25: the empty set", x.sound(1), 0);
        // The sets that are sound pay 99 for ship 0, and for ship 1 one pays 99, one nothing.
        x = Check.harbour("990;990", "99l.;99l.", "0a99;1b99");
        x.seen(0, 99);
        due("26: so much may be paid, too", x.press(), 1);
        // A bearer that is unsound pays for nobody.
        x = Check.harbour("100", "05lb;20l.", "0a06;0b04");
        x.seen(0, 10);
        due("25: b pays for a", x.sound(1), 2);
        due("25: a or not", x.sound(0), 2);
    }

    private static void promise27() {
        DrownedNames x = ring();
        due("27: 4 times 15 by 16, above", x.fair(2, 0), 15);
        due("27: 4 times 15 by 16, below", x.fair(2, 1), 4);
        due("27: nothing, above", x.fair(0, 0), 0);
        due("27: nothing, below", x.fair(0, 1), 1);
        x = Check.harbour("104;203;999", "10l.;10l.", "0a04;1a05;2b99");
        due("27: 31 by 16, above", x.fair(0, 0), 31);
        due("27: 31 by 16, below", x.fair(0, 1), 16);
        due("27: 891 by 16, above", x.fair(1, 0), 891);
        x = Check.harbour("104", "10l.", "0a04");
        due("27: a whole one, above", x.fair(0, 0), 1);
        due("27: a whole one, below", x.fair(0, 1), 1);
        for (int odd : ODD) {
            due("27: no name", x.fair(odd, 0), BAD_LONG);
            due("27: no such thing", x.fair(0, odd), BAD_LONG);
        }
        due("27: no name", x.fair(1, 0), BAD_LONG);
        due("27: no such thing", x.fair(0, 2), BAD_LONG);
    }

    private static void promise28() {
        DrownedNames x = Check.harbour("104;203;990", "10l.;10d.", "0a04;1a08;2b99");
        long[][] wants = {
            {0, 1, 1}, {1, 61, 64}, {2, 61, 64}, {3, 13, 16}, {6, 13, 16}, {7, 39, 64},
            {10, 39, 64}, {11, 0, 1}, {99, 0, 1}
        };
        for (long[] want : wants) {
            due("28: storm(0, " + want[0] + "), above", x.storm(0, (int) want[0], 0), want[1]);
            due("28: storm(0, " + want[0] + "), below", x.storm(0, (int) want[0], 1), want[2]);
        }
        due("28: no risk", x.storm(1, 10, 0), 1);
        x.loss(0, 0);
        due("28: losses told are nothing", x.storm(0, 10, 0), 39);
        for (int odd : ODD) {
            due("28: no name", x.storm(odd, 0, 0), BAD_LONG);
            due("28: not so much", x.storm(0, odd, 0), BAD_LONG);
            due("28: no such thing", x.storm(0, 0, odd), BAD_LONG);
        }
        due("28: no name", x.storm(2, 0, 0), BAD_LONG);
        due("28: not so much", x.storm(0, 100, 0), BAD_LONG);
        due("28: no such thing", x.storm(0, 0, 2), BAD_LONG);
        x = Check.harbour("", "10l.", "");
        due("28: no ships", x.storm(0, 10, 0), 1);
        due("28: no ships", x.storm(0, 11, 1), 1);
        x = Check.harbour("999;999;999;999;999;999", "10l.", "0a99;1a99;2a99;3a99;4a99;5a99");
        due("28: none of six lost, above", x.storm(0, 1, 0), 117649);
        due("28: none of six lost, below", x.storm(0, 1, 1), 16777216);
    }

    private static void promise29() {
        // From seed 0 the seeds are 12345, -740551042, -1492899873, -698016724, 229283573,
        // their upper bits 0, 54236, 42756, 54885, 3498, the lots 0, 12, 4, 5, 10.
        DrownedNames x = Check.harbour("101;309;305", "50l.", "0a01;1a20;2a05");
        due("29: one year: 0 and 2 are lost", x.years(0, 1, 0, 1), 2);
        due("29: one year: 0 and 2 are lost", x.years(0, 1, 0, 0), 50 - 1 - 5);
        due("29: then only ship 1 has a lot", x.years(0, 2, 0, 1), 3);
        due("29: then only ship 1 has a lot", x.years(0, 2, 0, 0), 50 - 1 - 5 - 20);
        x = Check.harbour("100", "50l.", "0a01");
        due("29: no risk, never", x.years(0, 30, 0, 1), 0);
        x = Check.harbour("101", "50l.", "0a01");
        due("29: 0 is less than 1", x.years(0, 1, 0, 1), 1);
        // From seed 9 the lots are 8 and 3.
        x = Check.harbour("108;109", "50l.", "0a01;1a03");
        due("29: 8 is not less than 8", x.years(9, 1, 0, 0), 47);
        x = Check.harbour("109;100", "50l.", "0a01;1a03");
        due("29: 8 is less than 9", x.years(9, 1, 0, 0), 49);
        x.loss(0, 1);
        due("29: losses told are nothing", x.years(9, 1, 0, 0), 49);
        for (int odd : ODD) {
            due("29: no name", x.years(0, 1, odd, 0), -2);
            due("29: no such thing", x.years(0, 1, 0, odd), -2);
            due("29: not so many years", x.years(0, odd, 0, 0), -2);
            x.years(odd, 30, 0, 0);
        }
        due("29: no years", x.years(0, 0, 0, 0), -2);
        due("29: too many years", x.years(0, 31, 0, 0), -2);
        due("29: thirty years", x.years(0, 30, 0, 1), 1);
        due("29: no name", x.years(0, 1, 1, 0), -2);
        due("29: no such thing", x.years(0, 1, 0, 2), -2);
    }

    private static void promises30and31() {
        DrownedNames x = new DrownedNames();
        for (int odd : new int[] {-1, 4, LEAST_INT, Integer.MAX_VALUE}) {
            due("30: no sheet", x.sheet(odd, 0, 1), -2);
            due("30: no sheet ahead of the size", x.sheet(odd, 0, -1), -2);
            due("31: no sheet", x.lose(odd), -2);
        }
        for (int odd : new int[] {-1, 3, LEAST_INT, Integer.MAX_VALUE}) {
            due("30: no form", x.sheet(0, odd, 1), -2);
            due("30: no form ahead of the size", x.sheet(0, odd, -1), -2);
        }
        due("30: too many", x.sheet(0, 0, 61), -2);
        due("30: too many", x.sheet(0, 0, Integer.MAX_VALUE), -2);
        due("30: none of these is found", x.count(8), 0);
        due("30: below 0", x.sheet(0, 0, -1), -15);
        due("30: below 0", x.sheet(0, 0, LEAST_INT), -15);
        due("30: found", x.count(8), 5);
        due("30: still lost", x.lose(0), -11);
        due("31: found", x.count(8), 1);
        due("30: sixty", x.sheet(3, 2, 60), 60);
        x.lay(3, 2, 59, 7);
        due("30: below 0 changes no row", x.sheet(3, 0, -1), -15);
        due("30: as it was", x.get(3, 2, 59), 7);
        due("30: a new row", x.sheet(3, 2, 60), 60);
        due("30: of 0 at first", x.get(3, 2, 59), 0);
        due("31: sixty", x.lose(3), 60);
        due("31: lost", x.lose(3), -11);
        due("30: no items", x.sheet(1, 0, 0), 0);
        due("31: no items", x.lose(1), 0);
        due("31: lost", x.lose(1), -11);
    }

    private static void promises32and33() {
        DrownedNames x = new DrownedNames();
        int[][] wants = {
            {0, 127, 127}, {0, 128, -128}, {0, 256, 0}, {0, -129, 127}, {1, 32767, 32767},
            {1, 32768, -32768}, {1, 65536 + 5, 5}, {1, 200, 200}, {2, 65536, 65536},
            {2, LEAST_INT, LEAST_INT}
        };
        for (int[] want : wants) {
            x.sheet(0, want[0], 2);
            due("32: lay", x.lay(0, want[0], 1, want[1]), 1);
            due("33: get", x.get(0, want[0], 1), want[2]);
            due("33: the other one", x.get(0, want[0], 0), 0);
        }
        x = new DrownedNames();
        for (int odd : new int[] {-1, 4, LEAST_INT, Integer.MAX_VALUE}) {
            due("32: no sheet", x.lay(odd, 0, 0, 0), -2);
            due("33: no sheet", x.get(odd, 0, 0), LEAST_INT);
        }
        for (int odd : new int[] {-1, 3, LEAST_INT, Integer.MAX_VALUE}) {
            due("32: no form, ahead of lost", x.lay(0, odd, 0, 0), -2);
            due("33: no form, ahead of lost", x.get(0, odd, 0), LEAST_INT);
        }
        due("33: none of these is found", x.count(8), 0);
        due("32: lost", x.lay(0, 0, 0, 0), -11);
        x.sheet(0, 1, 3);
        due("32: another form, ahead of no item", x.lay(0, 0, 3, 0), -13);
        due("32: found", x.count(8), 3);
        for (int odd : new int[] {-1, 3, LEAST_INT, Integer.MAX_VALUE}) {
            due("32: no item", x.lay(0, 1, odd, 0), -12);
            due("33: lost", x.get(1, 1, odd), LEAST_INT);
            due("33: found", x.count(8), 1);
            due("33: another form", x.get(0, 2, odd), LEAST_INT);
            due("33: found", x.count(8), 3);
            due("33: no item", x.get(0, 1, odd), LEAST_INT);
            due("33: found", x.count(8), 2);
            x.get(0, 3, 0);
            due("33: what is bad is not found", x.count(8), 2);
        }
    }

    private static DrownedNames rows() {
        DrownedNames x = new DrownedNames();
        x.sheet(0, 1, 5);
        x.sheet(1, 1, 4);
        x.sheet(2, 2, 4);
        for (int i = 0; i < 5; i++) {
            x.lay(0, 1, i, i + 1);
        }
        return x;
    }

    private static void row(DrownedNames x, int s, int... want) {
        for (int i = 0; i < want.length; i++) {
            due("34: item " + i, x.get(s, 1, i), want[i]);
        }
    }

    private static void promise34() {
        DrownedNames x = rows();
        due("34: to another", x.copy(0, 2, 1, 1, 3), 1);
        row(x, 1, 0, 3, 4, 5);
        row(x, 0, 1, 2, 3, 4, 5);
        due("34: to itself, ahead", x.copy(0, 0, 0, 1, 4), 1);
        row(x, 0, 1, 1, 2, 3, 4);
        due("34: to itself, back", x.copy(0, 1, 0, 0, 4), 1);
        row(x, 0, 1, 2, 3, 4, 4);
        for (int odd : new int[] {-1, 4, LEAST_INT, Integer.MAX_VALUE}) {
            due("34: no sheet", x.copy(odd, 0, 1, 0, 1), -2);
            due("34: no sheet, ahead of lost", x.copy(3, 0, odd, 0, 1), -2);
        }
        due("34: lost", x.copy(3, -1, 0, 0, 1), -11);
        due("34: lost, ahead of unlike", x.copy(2, -1, 3, 0, 1), -11);
        due("34: unlike, ahead of no item", x.copy(0, -1, 2, 0, 1), -14);
        due("34: unlike, with none, too", x.copy(0, 0, 2, 0, 0), -14);
        due("34: found", x.count(8), 4);
        due("34: all", x.copy(1, 0, 0, 1, 4), 1);
        int[][] index = {
            {-1, 0, 1}, {0, -1, 1}, {0, 0, -1}, {5, 0, 1}, {0, 4, 1}, {0, 0, 5}, {1, 0, 5},
            {6, 0, 0}, {0, 5, 0}, {LEAST_INT, 0, 0}, {0, LEAST_INT, 0}, {0, 0, LEAST_INT},
            {0, 0, Integer.MAX_VALUE}, {2, 2, Integer.MAX_VALUE}, {Integer.MAX_VALUE, 0, 1},
            {0, Integer.MAX_VALUE, 1}, {2, 2, 3}, {3, 0, 3}, {6, 0, -1}
        };
        for (int[] at : index) {
            due("34: no such items", x.copy(0, at[0], 1, at[1], at[2]), -12);
        }
        row(x, 1, 0, 3, 4, 5);
        due("34: none at the ends", x.copy(0, 5, 1, 4, 0), 1);
        x.sheet(3, 1, 0);
        due("34: none of none", x.copy(3, 0, 3, 0, 0), 1);
    }

    private static void promise35() {
        DrownedNames x = ring();
        x.loss(2, 0);
        for (int odd : ODD) {
            due("35: no year", x.write(odd, 0), -2);
            due("35: no sheet", x.write(0, odd), -2);
        }
        due("35: no year", x.write(30, 0), -2);
        due("35: no sheet", x.write(0, 4), -2);
        due("35: lost", x.write(0, 0), -11);
        x.sheet(0, 1, 7);
        for (int i = 0; i < 7; i++) {
            x.lay(0, 1, i, 77);
        }
        due("35: as many as there are names", x.write(2, 0), 5);
        row(x, 0, 10, 20, 0, 30, 40, 77, 77);
        due("35: ahead of the loss", x.write(1, 0), 5);
        row(x, 0, 10, 20, 8, 30, 40, 77, 77);
        x.sheet(0, 1, 3);
        due("35: as many as there are items", x.write(29, 0), 3);
        row(x, 0, 10, 20, 0);
        x.sheet(0, 0, 0);
        due("35: no items", x.write(0, 0), 0);
        x.wipe(1);
        x.sheet(0, 0, 4);
        due("35: no names", x.write(0, 0), 0);
    }

    private static void promise36() {
        DrownedNames x = ring();
        x.loss(0, 0);
        x.loss(0, 0);
        x.seen(0, 0);
        x.lay(0, 0, 0, 0);
        int[] want = {2, 5, 6, 7, 24, 29, 2, 1, 1};
        for (int what = 0; what <= 8; what++) {
            due("36: count(" + what + ")", x.count(what), want[what]);
        }
        for (int odd : new int[] {-1, 9, LEAST_INT, Integer.MAX_VALUE}) {
            due("36: no such thing", x.count(odd), -2);
        }
        x.type(0, ';');
        due("36: with a fault no ships", x.count(0), 0);
        due("36: but bytes", x.count(3), 8);
    }

    private static long folded(long... told) {
        long h = 17;
        for (long each : told) {
            h = 31 * h + each;
        }
        return h;
    }

    private static void promise37() {
        DrownedNames x = new DrownedNames();
        due("37: a new object", x.digest(), folded(0, 0, 0, 0, 0, 0, 0, 0, -1, -1, -1,
            0, 0, 0, 0, 0, 0, -1, -1, 0, 1, 0, -1));
        x.lose(0);
        x.sheet(1, 1, 1);
        due("37: no findings, no sheets", x.digest(), new DrownedNames().digest());
        x = Check.harbour("100", "", "");
        due("37: a ship alone", x.digest(), folded(1, 0, 0, 3, 0, 0, 0, 0, -1, -1, -1,
            10, 0, 0, -2, 0, -1,
            0, 0, 0, 0, 0, 0, -1, -1, 1, 1, 0, 0));
        x = Check.harbour("100", "15lc;04l.", "0a10;0b05");
        x.loss(5, 0);
        // a owes 6, b 3, of 15 for 10; without a, b owes 5, without b, a owes 10.
        due("37: names and lines", x.digest(), folded(1, 2, 2, 3, 9, 9, 1, 0, -1, -1, -1,
            10, 0, 0, 6, 9, 1,
            15, 0, 2, 0, 1, 0, 9, -6, 0, 1, 1, 1, 15, 0,
            4, 0, -1, 1, 2, 0, 1, 4, 0, 1, 0, 1, 4, 0,
            0, 0, 10, 6, 0, 1, 5, 3,
            0, 0, 0, 1, 0, 1, -1, -1, 1, 4, 0, 0));
        x.back();
        x.loss(10, 0);
        due("37: a loss behind year 9", x.digest(), folded(1, 2, 2, 3, 9, 9, 1, 0, -1, -1, -1,
            10, 0, 0, 6, 0, 1,
            15, 0, 2, 0, 1, 0, 15, -6, 0, 1, 1, 1, 15, 0,
            4, 0, -1, 1, 2, 0, 4, 4, 0, 1, 0, 1, 4, 0,
            0, 0, 10, 6, 0, 1, 5, 3,
            0, 0, 0, 0, 0, 1, -1, -1, 1, 4, 0, 0));
        x.back();
        x.loss(9, 0);
        due("37: a loss in year 9", x.digest(), folded(1, 2, 2, 3, 9, 9, 1, 0, -1, -1, -1,
            10, 0, 0, 6, 9, 1,
            15, 0, 2, 0, 1, 0, 9, -6, 0, 1, 1, 1, 15, 0,
            4, 0, -1, 1, 2, 0, 1, 4, 0, 1, 0, 1, 4, 0,
            0, 0, 10, 6, 0, 1, 5, 3,
            0, 0, 0, 1, 0, 1, -1, -1, 1, 4, 0, 0));
        long was = x.digest();
        x.get(0, 0, 0);
        due("37: digest changes nothing", x.digest(), was);
    }
}
