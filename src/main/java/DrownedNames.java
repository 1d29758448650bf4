import java.util.Arrays;

/** Ships whose risk is taken by names, some of them drowned: who owes what, and who breaks. */
public final class DrownedNames {
    public static final int NONE = -1, BAD = -2, NOT = -3, FULL = -4;

    private static final int MOST_SHIPS = 6, MOST_NAMES = 8, MOST_LINES = 12;
    private static final int MOST_LOSSES = 12, MOST_SEEN = 8, YEARS = 30;
    private static final int MOST_HAD = 99, MOST_WORTH = 99, MOST_PAID = 999, SIXTEENTHS = 16;
    private static final int ALL_NAMES = (1 << MOST_NAMES) - 1;
    private static final int SHEETS = 4, FORMS = 3, MOST_ITEMS = 60;
    private static final int NULL = 1, INDEX = 2, CAST = 3, STORE = 4, SIZE = 5;
    private static final int LEAST_INT = -2147483648;
    private static final int BAD_AMONG_NUMBERS = -1000 + BAD;
    private static final long BAD_AMONG_LONGS = -9223372036854775808L - BAD;

    // How each item of a text is spelt, byte by byte; Text tells what the signs stand for.
    private static final String SHIP_ITEM = "919", NAME_ITEM = "99l.", LINE_ITEM = "5a91";

    private final Text shipText = new Text(SHIP_ITEM, MOST_SHIPS);
    private final Text nameText = new Text(NAME_ITEM, MOST_NAMES);
    private final Text lineText = new Text(LINE_ITEM, MOST_LINES);
    private final Pairs losses = new Pairs(MOST_LOSSES);
    private final Sheet[] sheets = new Sheet[SHEETS];
    private final Harbour harbour;
    private final Reckoning reckoning;
    private final Pairs sightings;
    private final Evidence evidence;
    private int struckNames;
    private int latestFinding;

    public DrownedNames() {
        Harbour madeHarbour = new Harbour();
        Reckoning madeReckoning = new Reckoning(madeHarbour);
        Pairs madeSightings = new Pairs(MOST_SEEN);
        harbour = madeHarbour;
        reckoning = madeReckoning;
        sightings = madeSightings;
        evidence = new Evidence(madeHarbour, madeReckoning, madeSightings);
        for (int s = 0; s < SHEETS; s++) {
            sheets[s] = new Sheet();
        }
    }

    // ---- ships, names, lines

    public int type(int text, int b) {
        Text typed = textAt(text);
        if (typed == null || !isWithin(b, 255)) {
            return BAD;
        }
        if (typed.isFull()) {
            return FULL;
        }
        typed.append(b);
        settle();
        return typed.length;
    }

    public int wipe(int text) {
        Text wiped = textAt(text);
        if (wiped == null) {
            return BAD;
        }
        int had = wiped.length;
        wiped.length = 0;
        settle();
        return had;
    }

    public int undo(int text) {
        Text undone = textAt(text);
        if (undone == null) {
            return BAD;
        }
        if (undone.length == 0) {
            return NOT;
        }
        undone.length--;
        settle();
        return undone.length;
    }

    public int fault(int text) {
        Text looked = textAt(text);
        return looked == null ? BAD : looked.faultPlace();
    }

    public int ship(int ship, int what) {
        if (!harbour.hasShip(ship) || !isWithin(what, 1)) {
            return BAD;
        }
        return what == 0 ? harbour.worth[ship] : harbour.risk[ship];
    }

    public int name(int name, int what) {
        if (!harbour.hasName(name)) {
            return BAD;
        }
        switch (what) {
            case 0: return harbour.has[name];
            case 1: return harbour.isDrowned(name) ? 1 : 0;
            case 2: return harbour.standsBehind[name];
            default: return BAD;
        }
    }

    public int line(int line, int what) {
        if (!harbour.hasLine(line)) {
            return BAD;
        }
        switch (what) {
            case 0: return harbour.lineShip[line];
            case 1: return harbour.lineName[line];
            case 2: return harbour.lineAmount[line];
            case 3: return harbour.due[line];
            default: return BAD;
        }
    }

    public int struck(int names) {
        if (!isWithin(names, ALL_NAMES)) {
            return BAD;
        }
        int were = struckNames;
        struckNames = names;
        settle();
        return were;
    }

    public int loss(int year, int ship) {
        if (!isLoss(year, ship)) {
            return BAD;
        }
        return losses.isFull() ? FULL : losses.append(year, ship);
    }

    public int back() {
        if (losses.size == 0) {
            return NOT;
        }
        losses.size--;
        return losses.size;
    }

    public int read(int s) {
        Sheet sheet = sheetAt(s);
        if (sheet == null) {
            return BAD;
        }
        if (sheet.lost) {
            return found(NULL);
        }
        int came = 0;
        for (int i = 0; i + 1 < sheet.size && !losses.isFull(); i += 2) {
            if (!isLoss(sheet.items[i], sheet.items[i + 1])) {
                break;
            }
            losses.append(sheet.items[i], sheet.items[i + 1]);
            came++;
        }
        return came;
    }

    // ---- who bears

    public int bearer(int name, int what) {
        if (!harbour.hasName(name)) {
            return BAD;
        }
        switch (what) {
            case 0: return harbour.bearer[name];
            case 1: return harbour.namesBorneBy(name);
            case 2: return harbour.bearer[name] == NONE ? 1 : 0;
            default: return BAD;
        }
    }

    public int borne(int ship, int name) {
        return harbour.hasShip(ship) && harbour.hasName(name) ? harbour.dueOf(ship, name) : BAD;
    }

    public int unborne(int ship) {
        return harbour.hasShip(ship) ? harbour.dueOf(ship, NONE) : BAD;
    }

    // ---- years

    public int left(int year, int name) {
        if (!isYear(year) || !harbour.hasName(name)) {
            return BAD;
        }
        reckoning.followTold(losses, year);
        return reckoning.left[name];
    }

    public int behind(int year, int what) {
        if (!isYear(year) || !isWithin(what, 1)) {
            return BAD;
        }
        reckoning.followTold(losses, year);
        return what == 0 ? reckoning.broken : reckoning.lost;
    }

    public int paid(int year, int ship) {
        if (!isYear(year) || !harbour.hasShip(ship)) {
            return BAD;
        }
        reckoning.followTold(losses, year);
        return reckoning.paid[ship];
    }

    public int first(int what) {
        if (!isWithin(what, 1)) {
            return BAD;
        }
        reckoning.followTold(losses, YEARS - 1);
        return what == 0 ? reckoning.firstYear : reckoning.firstBroken;
    }

    // ---- plans

    public int safe() {
        int safeShips = 0;
        for (int ship = 0; ship < harbour.ships; ship++) {
            reckoning.loseAlone(ship, ALL_NAMES);
            if (reckoning.broken == 0) {
                safeShips |= 1 << ship;
            }
        }
        return safeShips;
    }

    public int take(int ship) {
        if (!harbour.hasShip(ship)) {
            return BAD;
        }
        int best = NONE;
        int bestHas = 0;
        for (int set = 1; set < 1 << harbour.names; set++) {
            int has = harbour.hasTogether(set);
            if ((set & struckNames) != 0 || has < harbour.worth[ship]) {
                continue;
            }
            int more = best == NONE ? -1 : Integer.bitCount(set) - Integer.bitCount(best);
            if (more < 0 || more == 0 && has < bestHas) {
                best = set;
                bestHas = has;
            }
        }
        return best;
    }

    public int strike(int name, int other) {
        if (!harbour.hasName(name) || !harbour.hasName(other)) {
            return BAD_AMONG_NUMBERS;
        }
        int before = harbour.dueOfAllShips(name);
        harbour.strikeOut(struckNames | 1 << other);
        int after = harbour.dueOfAllShips(name);
        harbour.strikeOut(struckNames);
        return after - before;
    }

    // ---- seen, premiums, storms

    public int seen(int ship, int paid) {
        if (!isWithin(ship, MOST_SHIPS - 1) || !isWithin(paid, MOST_PAID)) {
            return BAD;
        }
        return sightings.isFull() ? FULL : sightings.append(ship, paid);
    }

    public int forget() {
        int had = sightings.size;
        sightings.size = 0;
        return had;
    }

    public int sound(int what) {
        if (!isWithin(what, 1)) {
            return BAD;
        }
        evidence.weigh();
        return what == 0 ? evidence.howMany : evidence.least;
    }

    public int press() {
        evidence.weigh();
        return evidence.shipToPress();
    }

    public long fair(int name, int what) {
        if (!harbour.hasName(name) || !isWithin(what, 1)) {
            return BAD_AMONG_LONGS;
        }
        int above = 0;
        for (int ship = 0; ship < harbour.ships; ship++) {
            above += harbour.risk[ship] * harbour.dueOf(ship, name);
        }
        return partOfFraction(above, SIXTEENTHS, what);
    }

    public long storm(int name, int left, int what) {
        if (!harbour.hasName(name) || !isWithin(left, MOST_HAD) || !isWithin(what, 1)) {
            return BAD_AMONG_LONGS;
        }
        int above = 0;
        int below = 0;
        for (int set = 0; set < 1 << harbour.ships; set++) {
            int chances = harbour.chancesOf(set);
            below += chances;
            if (chances > 0) {
                reckoning.loseTogether(set);
                above += reckoning.left[name] >= left ? chances : 0;
            }
        }
        return partOfFraction(above, below, what);
    }

    public int years(int seed, int n, int name, int what) {
        if (n < 1 || n > YEARS || !harbour.hasName(name) || !isWithin(what, 1)) {
            return BAD;
        }
        reckoning.followLots(seed, n);
        return what == 0 ? reckoning.left[name] : Integer.bitCount(reckoning.lost);
    }

    // ---- sheets

    public int sheet(int s, int form, int n) {
        Sheet sheet = sheetAt(s);
        if (sheet == null || !isForm(form) || n > MOST_ITEMS) {
            return BAD;
        }
        if (n < 0) {
            return found(SIZE);
        }
        sheet.renew(form, n);
        return n;
    }

    public int lose(int s) {
        Sheet sheet = sheetAt(s);
        if (sheet == null) {
            return BAD;
        }
        if (sheet.lost) {
            return found(NULL);
        }
        sheet.lost = true;
        return sheet.size;
    }

    public int lay(int s, int form, int i, int v) {
        Sheet sheet = sheetAt(s);
        if (sheet == null || !isForm(form)) {
            return BAD;
        }
        int finding = sheet.findingAt(form, i);
        if (finding != 0) {
            return found(finding);
        }
        sheet.put(i, v);
        return 1;
    }

    public int get(int s, int form, int i) {
        Sheet sheet = sheetAt(s);
        if (sheet == null || !isForm(form)) {
            return LEAST_INT;
        }
        int finding = sheet.findingAt(form, i);
        if (finding != 0) {
            found(finding);
            return LEAST_INT;
        }
        return sheet.items[i];
    }

    public int copy(int s, int i, int t, int j, int n) {
        Sheet from = sheetAt(s);
        Sheet to = sheetAt(t);
        if (from == null || to == null) {
            return BAD;
        }
        if (from.lost || to.lost) {
            return found(NULL);
        }
        if (from.form != to.form) {
            return found(STORE);
        }
        if (!from.hasRange(i, n) || !to.hasRange(j, n)) {
            return found(INDEX);
        }
        System.arraycopy(from.items, i, to.items, j, n);
        return 1;
    }

    public int write(int year, int s) {
        Sheet sheet = sheetAt(s);
        if (!isYear(year) || sheet == null) {
            return BAD;
        }
        if (sheet.lost) {
            return found(NULL);
        }
        reckoning.followTold(losses, year);
        int written = Math.min(sheet.size, harbour.names);
        for (int name = 0; name < written; name++) {
            sheet.put(name, reckoning.left[name]);
        }
        return written;
    }

    public int count(int what) {
        switch (what) {
            case 0: return harbour.ships;
            case 1: return harbour.names;
            case 2: return harbour.lines;
            case 3: return shipText.length;
            case 4: return nameText.length;
            case 5: return lineText.length;
            case 6: return losses.size;
            case 7: return sightings.size;
            case 8: return latestFinding;
            default: return BAD;
        }
    }

    public long digest() {
        long h = 17;
        for (int what = 0; what <= 7; what++) {
            h = 31 * h + count(what);
        }
        for (int text = 0; text <= 2; text++) {
            h = 31 * h + fault(text);
        }
        for (int ship = 0; ship < harbour.ships; ship++) {
            h = withShip(h, ship);
        }
        for (int name = 0; name < harbour.names; name++) {
            h = withName(h, name);
        }
        for (int line = 0; line < harbour.lines; line++) {
            for (int what = 0; what <= 3; what++) {
                h = 31 * h + line(line, what);
            }
        }
        h = withYear(h, 0);
        h = withYear(h, 9);
        h = withYear(h, 29);
        h = 31 * h + first(0);
        h = 31 * h + first(1);
        h = 31 * h + safe();
        h = 31 * h + sound(0);
        h = 31 * h + sound(1);
        return 31 * h + press();
    }

    private long withShip(long before, int ship) {
        long h = before;
        h = 31 * h + ship(ship, 0);
        h = 31 * h + ship(ship, 1);
        h = 31 * h + unborne(ship);
        h = 31 * h + borne(ship, 0);
        h = 31 * h + paid(9, ship);
        return 31 * h + take(ship);
    }

    private long withName(long before, int name) {
        long h = before;
        for (int what = 0; what <= 2; what++) {
            h = 31 * h + name(name, what);
        }
        for (int what = 0; what <= 2; what++) {
            h = 31 * h + bearer(name, what);
        }
        h = 31 * h + left(9, name);
        h = 31 * h + strike(0, name);
        h = 31 * h + fair(name, 0);
        h = 31 * h + fair(name, 1);
        h = 31 * h + storm(name, 9, 0);
        h = 31 * h + storm(name, 9, 1);
        h = 31 * h + years(7, 9, name, 0);
        return 31 * h + years(7, 9, name, 1);
    }

    private long withYear(long before, int year) {
        long h = 31 * before + behind(year, 0);
        return 31 * h + behind(year, 1);
    }

    private Text textAt(int text) {
        switch (text) {
            case 0: return shipText;
            case 1: return nameText;
            case 2: return lineText;
            default: return null;
        }
    }

    private Sheet sheetAt(int s) {
        return isWithin(s, SHEETS - 1) ? sheets[s] : null;
    }

    private void settle() {
        harbour.settleShips(shipText);
        harbour.settleNames(nameText);
        harbour.settleLines(lineText);
        harbour.strikeOut(struckNames);
    }

    private int found(int finding) {
        latestFinding = finding;
        return -10 - finding;
    }

    private static boolean isWithin(int number, int most) {
        return number >= 0 && number <= most;
    }

    private static boolean isYear(int year) {
        return isWithin(year, YEARS - 1);
    }

    private static boolean isForm(int form) {
        return isWithin(form, FORMS - 1);
    }

    private static boolean isLoss(int year, int ship) {
        return isYear(year) && isWithin(ship, MOST_SHIPS - 1);
    }

    /** Halving is enough for lowest terms: what is below is always a power of two. */
    private static long partOfFraction(int above, int below, int what) {
        int a = above;
        int b = below;
        while (b > 1 && a % 2 == 0) {
            a /= 2;
            b /= 2;
        }
        return what == 0 ? a : b;
    }

    /**
     * A text as it is typed. The pattern of an item has a sign for each byte: 9 any figure, 1 a
     * figure that is not the second 0 of a 00, 5 a figure of 0 to 5, a a letter a to h, l an l or
     * a d, and . a point or a letter a to h. It has room for as many items as may be told, so one
     * too many never comes.
     */
    private static final class Text {
        final String pattern;
        final int step;
        final int[] bytes;
        int length;

        Text(String pattern, int most) {
            this.pattern = pattern;
            this.step = pattern.length() + 1;
            this.bytes = new int[most * step - 1];
        }

        boolean isFull() {
            return length >= bytes.length;
        }

        void append(int b) {
            if (!isFull()) {
                bytes[length] = b;
                length++;
            }
        }

        int byteAt(int at) {
            return at >= 0 && at < length ? bytes[at] : 0;
        }

        int figureAt(int at) {
            return byteAt(at) - '0';
        }

        int figuresAt(int at) {
            return 10 * figureAt(at) + figureAt(at + 1);
        }

        int faultPlace() {
            for (int at = 0; at < length; at++) {
                if (!goesOnAt(at)) {
                    return at;
                }
            }
            return length == 0 || (length + 1) % step == 0 ? NONE : length;
        }

        /** How many items there are: none with a fault. */
        int items() {
            return faultPlace() == NONE ? (length + 1) / step : 0;
        }

        private boolean goesOnAt(int at) {
            int b = byteAt(at);
            int place = at % step;
            if (place >= pattern.length()) {
                return b == ';';
            }
            switch (pattern.charAt(place)) {
                case '9': return isBetween(b, '0', '9');
                case '1': return isBetween(b, '0', '9') && (b != '0' || byteAt(at - 1) != '0');
                case '5': return isBetween(b, '0', '5');
                case 'a': return isBetween(b, 'a', 'h');
                case 'l': return b == 'l' || b == 'd';
                case '.': return b == '.' || isBetween(b, 'a', 'h');
                default: return false;
            }
        }

        private static boolean isBetween(int b, char least, char most) {
            return b >= least && b <= most;
        }
    }

    /** What the texts tell, and who bears what while some names are struck out. */
    private static final class Harbour {
        int ships;
        final int[] worth = new int[MOST_SHIPS];
        final int[] risk = new int[MOST_SHIPS];
        int names;
        final int[] has = new int[MOST_NAMES];
        final int[] standsBehind = new int[MOST_NAMES];
        int drowned;
        int lines;
        final int[] lineShip = new int[MOST_LINES];
        final int[] lineName = new int[MOST_LINES];
        final int[] lineAmount = new int[MOST_LINES];
        final int[] bearer = new int[MOST_NAMES];
        final int[] due = new int[MOST_LINES];
        final int[] payer = new int[MOST_LINES];

        boolean hasShip(int ship) {
            return ship >= 0 && ship < ships;
        }

        boolean hasName(int name) {
            return name >= 0 && name < names;
        }

        boolean hasLine(int line) {
            return line >= 0 && line < lines;
        }

        boolean isDrowned(int name) {
            return (drowned >> name & 1) == 1;
        }

        void settleShips(Text text) {
            ships = Math.min(text.items(), MOST_SHIPS);
            for (int ship = 0; ship < ships; ship++) {
                int at = ship * text.step;
                worth[ship] = text.figuresAt(at);
                risk[ship] = text.figureAt(at + 2);
            }
        }

        void settleNames(Text text) {
            names = Math.min(text.items(), MOST_NAMES);
            drowned = 0;
            for (int name = 0; name < names; name++) {
                int at = name * text.step;
                has[name] = text.figuresAt(at);
                drowned |= text.byteAt(at + 2) == 'd' ? 1 << name : 0;
                int whose = text.byteAt(at + 3);
                standsBehind[name] = whose == '.' ? NONE : whose - 'a';
            }
        }

        void settleLines(Text text) {
            lines = Math.min(text.items(), MOST_LINES);
            for (int line = 0; line < lines; line++) {
                int at = line * text.step;
                lineShip[line] = text.figureAt(at);
                lineName[line] = text.byteAt(at + 1) - 'a';
                lineAmount[line] = text.figuresAt(at + 2);
            }
        }

        void strikeOut(int struck) {
            for (int name = 0; name < names; name++) {
                bearer[name] = bearerOf(name, struck);
            }
            for (int line = 0; line < lines; line++) {
                boolean isVoid = isVoid(line, struck);
                due[line] = isVoid ? 0 : dueOfLine(line, struck);
                payer[line] = isVoid ? NONE : bearer[lineName[line]];
            }
        }

        private int bearerOf(int name, int struck) {
            int at = name;
            // Whoever has not come to an end in as many steps as there are names goes round.
            for (int steps = 0; steps < names; steps++) {
                int next = standsBehind[at];
                if (next == at || !hasName(next) || (struck >> next & 1) == 1) {
                    return at;
                }
                at = next;
            }
            return NONE;
        }

        private boolean isVoid(int line, int struck) {
            int name = lineName[line];
            return !hasShip(lineShip[line]) || !hasName(name) || (struck >> name & 1) == 1;
        }

        private int dueOfLine(int line, int struck) {
            int ship = lineShip[line];
            int all = 0;
            for (int other = 0; other < lines; other++) {
                all += lineShip[other] == ship && !isVoid(other, struck) ? lineAmount[other] : 0;
            }
            int amount = lineAmount[line];
            return all > worth[ship] && all > 0 ? amount * worth[ship] / all : amount;
        }

        int namesBorneBy(int name) {
            int borne = 0;
            for (int other = 0; other < names; other++) {
                borne |= bearer[other] == name ? 1 << other : 0;
            }
            return borne;
        }

        /** Due of a ship's lines that come to a name, or to none. */
        int dueOf(int ship, int name) {
            int sum = 0;
            for (int line = 0; line < lines; line++) {
                sum += lineShip[line] == ship && payer[line] == name ? due[line] : 0;
            }
            return sum;
        }

        int dueOfAllShips(int name) {
            int sum = 0;
            for (int ship = 0; ship < ships; ship++) {
                sum += dueOf(ship, name);
            }
            return sum;
        }

        int hasTogether(int set) {
            int sum = 0;
            for (int name = 0; name < names; name++) {
                sum += (set >> name & 1) == 1 ? has[name] : 0;
            }
            return sum;
        }

        /** In how many of all cases of a storm, sixteen for each ship, these ships alone are lost. */
        int chancesOf(int lostShips) {
            int chances = 1;
            for (int ship = 0; ship < ships; ship++) {
                boolean isLost = (lostShips >> ship & 1) == 1;
                chances *= isLost ? risk[ship] : SIXTEENTHS - risk[ship];
            }
            return chances;
        }
    }

    /** What comes of losses, one after the other, from what all have at first. */
    private static final class Reckoning {
        final Harbour harbour;
        final int[] left = new int[MOST_NAMES];
        final int[] paid = new int[MOST_SHIPS];
        int lost;
        int broken;
        int firstYear;
        int firstBroken;

        Reckoning(Harbour harbour) {
            this.harbour = harbour;
        }

        void followTold(Pairs losses, int lastYear) {
            begin();
            for (int year = 0; year <= lastYear; year++) {
                for (int i = 0; i < losses.size; i++) {
                    if (losses.former[i] == year) {
                        sink(losses.latter[i], year, ALL_NAMES);
                    }
                }
            }
        }

        void followLots(int firstSeed, int years) {
            begin();
            int seed = firstSeed;
            for (int year = 0; year < years; year++) {
                for (int ship = 0; ship < harbour.ships; ship++) {
                    if (isLost(ship)) {
                        continue;
                    }
                    seed = 1103515245 * seed + 12345;
                    if ((seed >>> 16) % SIXTEENTHS < harbour.risk[ship]) {
                        sink(ship, year, ALL_NAMES);
                    }
                }
            }
        }

        void loseTogether(int lostShips) {
            begin();
            for (int ship = 0; ship < harbour.ships; ship++) {
                if ((lostShips >> ship & 1) == 1) {
                    sink(ship, 0, ALL_NAMES);
                }
            }
        }

        /** What is paid for a ship lost alone, if none but the payers ever pays. */
        int loseAlone(int ship, int payers) {
            begin();
            sink(ship, 0, payers);
            return harbour.hasShip(ship) ? paid[ship] : 0;
        }

        private void begin() {
            System.arraycopy(harbour.has, 0, left, 0, MOST_NAMES);
            Arrays.fill(paid, 0);
            lost = 0;
            broken = 0;
            firstYear = NONE;
            firstBroken = NONE;
        }

        private boolean isLost(int ship) {
            return (lost >> ship & 1) == 1;
        }

        private void sink(int ship, int year, int payers) {
            if (!harbour.hasShip(ship) || isLost(ship)) {
                return;
            }
            lost |= 1 << ship;
            for (int line = 0; line < harbour.lines; line++) {
                int payer = harbour.payer[line];
                if (harbour.lineShip[line] != ship || !harbour.hasName(payer)
                    || (payers >> payer & 1) == 0) {
                    continue;
                }
                int due = harbour.due[line];
                int part = Math.min(due, left[payer]);
                left[payer] -= part;
                paid[ship] += part;
                if (part < due && !harbour.isDrowned(payer)) {
                    breakName(payer, year);
                }
            }
        }

        private void breakName(int name, int year) {
            if (broken == 0) {
                firstYear = year;
                firstBroken = name;
            }
            broken |= 1 << name;
        }
    }

    /** Which sets of names that pay fit all that was seen, and what would tell them apart. */
    private static final class Evidence {
        final Harbour harbour;
        final Reckoning reckoning;
        final Pairs seen;
        final boolean[] isSound = new boolean[ALL_NAMES + 1];
        // All that is due of a ship is never more than its worth.
        final int[] paysAlike = new int[MOST_WORTH + 1];
        int howMany;
        int least;

        Evidence(Harbour harbour, Reckoning reckoning, Pairs seen) {
            this.harbour = harbour;
            this.reckoning = reckoning;
            this.seen = seen;
        }

        void weigh() {
            howMany = 0;
            least = NONE;
            for (int set = 0; set < 1 << harbour.names; set++) {
                isSound[set] = fitsAllSeen(set);
                if (isSound[set]) {
                    howMany++;
                    least = least == NONE ? set : least;
                }
            }
        }

        int shipToPress() {
            int best = NONE;
            int bestGroup = 0;
            for (int ship = 0; ship < harbour.ships; ship++) {
                int group = greatestGroup(ship);
                if (best == NONE || group < bestGroup) {
                    best = ship;
                    bestGroup = group;
                }
            }
            return best;
        }

        private boolean fitsAllSeen(int set) {
            for (int i = 0; i < seen.size; i++) {
                if (reckoning.loseAlone(seen.former[i], set) != seen.latter[i]) {
                    return false;
                }
            }
            return true;
        }

        private int greatestGroup(int ship) {
            Arrays.fill(paysAlike, 0);
            int greatest = 0;
            for (int set = 0; set < 1 << harbour.names; set++) {
                if (!isSound[set]) {
                    continue;
                }
                int pays = reckoning.loseAlone(ship, set);
                if (pays >= 0 && pays < paysAlike.length) {
                    paysAlike[pays]++;
                    greatest = Math.max(greatest, paysAlike[pays]);
                }
            }
            return greatest;
        }
    }

    /** Two numbers for each thing told, as many as there is room for. */
    private static final class Pairs {
        final int[] former;
        final int[] latter;
        int size;

        Pairs(int most) {
            former = new int[most];
            latter = new int[most];
        }

        boolean isFull() {
            return size >= former.length;
        }

        int append(int a, int b) {
            if (!isFull()) {
                former[size] = a;
                latter[size] = b;
                size++;
            }
            return size;
        }
    }

    /** A row of items of a form, or a lost one; its room is kept for the next row. */
    private static final class Sheet {
        final int[] items = new int[MOST_ITEMS];
        boolean lost = true;
        int form;
        int size;

        void renew(int newForm, int newSize) {
            Arrays.fill(items, 0);
            lost = false;
            form = newForm;
            size = newSize;
        }

        int findingAt(int asForm, int i) {
            if (lost) {
                return NULL;
            }
            if (form != asForm) {
                return CAST;
            }
            return i >= 0 && i < size ? 0 : INDEX;
        }

        boolean hasRange(int from, int n) {
            return from >= 0 && n >= 0 && from <= size && n <= size - from;
        }

        void put(int i, int v) {
            if (i >= 0 && i < size) {
                items[i] = narrowed(v);
            }
        }

        private int narrowed(int v) {
            switch (form) {
                case 0: return (byte) v;
                case 1: return (short) v;
                default: return v;
            }
        }
    }
}
