import java.math.BigInteger;
import java.util.ArrayList;
import java.util.HashMap;
import java.util.HashSet;
import java.util.List;
import java.util.Map;
import java.util.Set;
import java.util.TreeMap;
import java.util.regex.Matcher;
import java.util.regex.Pattern;

/**
 * The document a second time, told from its words by other means (regular expressions, maps,
 * recursion, big numbers), to be compared with DrownedNames call by call.
 */
public final class Model {
    private static final String TWO = "(?:0[1-9]|[1-9][0-9])";
    private static final String[] ITEM = {
        TWO + "[0-9]", "[0-9][0-9][ld][.a-h]", "[0-5][a-h]" + TWO
    };
    private static final int[] MOST = {6, 8, 12};
    private static final int[] ROOM = {23, 39, 59};

    private final StringBuilder[] texts = {
        new StringBuilder(), new StringBuilder(), new StringBuilder()
    };
    private final List<int[]> losses = new ArrayList<>();
    private final List<int[]> seen = new ArrayList<>();
    private final int[][] sheets = new int[4][];
    private final int[] forms = new int[4];
    private final String[] readAs = new String[3];
    private List<Ship> ships;
    private List<Name> names;
    private List<Line> lines;
    private int struck;
    private int finding;

    private record Ship(int worth, int risk) { }
    private record Name(int has, boolean drowned, int whose) { }
    private record Line(int ship, int name, int amount) { }

    // ---- texts

    private int faultOf(int text) {
        String all = texts[text].toString();
        Pattern p = Pattern.compile(
            "(?:" + ITEM[text] + "(?:;" + ITEM[text] + "){0," + (MOST[text] - 1) + "})?");
        for (int n = 1; n <= all.length(); n++) {
            Matcher m = p.matcher(all.substring(0, n));
            if (!m.matches() && !m.hitEnd()) {
                return n - 1;
            }
        }
        return p.matcher(all).matches() ? -1 : all.length();
    }

    private List<String> items(int text) {
        List<String> items = new ArrayList<>();
        if (faultOf(text) == -1 && texts[text].length() > 0) {
            items.addAll(List.of(texts[text].toString().split(";")));
        }
        return items;
    }

    /** Reading is slow; what was read stands until its text is another one. */
    private void readAgain(int text) {
        String now = texts[text].toString();
        if (now.equals(readAs[text])) {
            return;
        }
        readAs[text] = now;
        switch (text) {
            case 0 -> ships = readShips();
            case 1 -> names = readNames();
            default -> lines = readLines();
        }
    }

    private List<Ship> ships() {
        readAgain(0);
        return ships;
    }

    private List<Name> names() {
        readAgain(1);
        return names;
    }

    private List<Line> lines() {
        readAgain(2);
        return lines;
    }

    private List<Ship> readShips() {
        List<Ship> ships = new ArrayList<>();
        for (String item : items(0)) {
            ships.add(new Ship(Integer.parseInt(item.substring(0, 2)), item.charAt(2) - '0'));
        }
        return ships;
    }

    private List<Name> readNames() {
        List<Name> names = new ArrayList<>();
        for (String item : items(1)) {
            int whose = ".abcdefgh".indexOf(item.charAt(3)) - 1;
            names.add(new Name(
                Integer.parseInt(item.substring(0, 2)), item.charAt(2) == 'd', whose));
        }
        return names;
    }

    private List<Line> readLines() {
        List<Line> lines = new ArrayList<>();
        for (String item : items(2)) {
            lines.add(new Line(Integer.parseInt(item.substring(0, 1)),
                "abcdefgh".indexOf(item.charAt(1)), Integer.parseInt(item.substring(2))));
        }
        return lines;
    }

    private boolean isText(int text) {
        return text == 0 || text == 1 || text == 2;
    }

    private boolean isShip(int ship) {
        return ship >= 0 && ship < ships().size();
    }

    private boolean isName(int name) {
        return name >= 0 && name < names().size();
    }

    public int type(int text, int b) {
        if (!isText(text) || b < 0 || b > 255) {
            return -2;
        }
        if (texts[text].length() == ROOM[text]) {
            return -4;
        }
        return texts[text].append((char) b).length();
    }

    public int wipe(int text) {
        if (!isText(text)) {
            return -2;
        }
        int had = texts[text].length();
        texts[text].setLength(0);
        return had;
    }

    public int undo(int text) {
        if (!isText(text)) {
            return -2;
        }
        if (texts[text].length() == 0) {
            return -3;
        }
        return texts[text].deleteCharAt(texts[text].length() - 1).length();
    }

    public int fault(int text) {
        return isText(text) ? faultOf(text) : -2;
    }

    public int ship(int ship, int what) {
        if (!isShip(ship) || what < 0 || what > 1) {
            return -2;
        }
        Ship s = ships().get(ship);
        return what == 0 ? s.worth() : s.risk();
    }

    public int name(int name, int what) {
        if (!isName(name) || what < 0 || what > 2) {
            return -2;
        }
        Name n = names().get(name);
        return what == 0 ? n.has() : what == 1 ? (n.drowned() ? 1 : 0) : n.whose();
    }

    public int line(int line, int what) {
        if (line < 0 || line >= lines().size() || what < 0 || what > 3) {
            return -2;
        }
        Line l = lines().get(line);
        return what == 0 ? l.ship() : what == 1 ? l.name() : what == 2 ? l.amount()
            : due(l, struck);
    }

    public int struck(int names) {
        if (names < 0 || names > 255) {
            return -2;
        }
        int were = struck;
        struck = names;
        return were;
    }

    // ---- who bears

    private static boolean in(int set, int bit) {
        return bit >= 0 && bit < 31 && (set & (1 << bit)) != 0;
    }

    private int bearerOf(int name, int out, Set<Integer> behind) {
        List<Name> names = names();
        int whose = names.get(name).whose();
        if (whose == -1 || whose == name || whose >= names.size() || in(out, whose)) {
            return name;
        }
        return behind.add(name) ? bearerOf(whose, out, behind) : -1;
    }

    private int bearerOf(int name, int out) {
        return bearerOf(name, out, new HashSet<>());
    }

    private boolean counts(Line l, int out) {
        return isShip(l.ship()) && isName(l.name()) && !in(out, l.name());
    }

    private int due(Line l, int out) {
        if (!counts(l, out)) {
            return 0;
        }
        int all = lines().stream().filter(o -> counts(o, out) && o.ship() == l.ship())
            .mapToInt(Line::amount).sum();
        int worth = ships().get(l.ship()).worth();
        return all > worth ? l.amount() * worth / all : l.amount();
    }

    private int borneBy(int ship, int name, int out) {
        int sum = 0;
        for (Line l : lines()) {
            if (counts(l, out) && l.ship() == ship && bearerOf(l.name(), out) == name) {
                sum += due(l, out);
            }
        }
        return sum;
    }

    public int bearer(int name, int what) {
        if (!isName(name) || what < 0 || what > 2) {
            return -2;
        }
        if (what == 0) {
            return bearerOf(name, struck);
        }
        if (what == 2) {
            return bearerOf(name, struck) == -1 ? 1 : 0;
        }
        int whom = 0;
        for (int n = 0; n < names().size(); n++) {
            if (bearerOf(n, struck) == name) {
                whom += 1 << n;
            }
        }
        return whom;
    }

    public int borne(int ship, int name) {
        return isShip(ship) && isName(name) ? borneBy(ship, name, struck) : -2;
    }

    public int unborne(int ship) {
        return isShip(ship) ? borneBy(ship, -1, struck) : -2;
    }

    // ---- losses

    private boolean isLoss(int year, int ship) {
        return year >= 0 && year < 30 && ship >= 0 && ship < 6;
    }

    public int loss(int year, int ship) {
        if (!isLoss(year, ship)) {
            return -2;
        }
        if (losses.size() == 12) {
            return -4;
        }
        losses.add(new int[] {year, ship});
        return losses.size();
    }

    public int back() {
        if (losses.isEmpty()) {
            return -3;
        }
        losses.remove(losses.size() - 1);
        return losses.size();
    }

    public int read(int s) {
        if (s < 0 || s > 3) {
            return -2;
        }
        if (sheets[s] == null) {
            return found(1);
        }
        int came = 0;
        while (2 * came + 1 < sheets[s].length
                && losses.size() < 12 && isLoss(sheets[s][2 * came], sheets[s][2 * came + 1])) {
            losses.add(new int[] {sheets[s][2 * came], sheets[s][2 * came + 1]});
            came++;
        }
        return came;
    }

    /** What stands once these losses (a year, a ship) have come in this order. */
    private final class Story {
        final List<Line> lines = lines();
        final List<Name> names = names();
        final int[] bearers = new int[8];
        final int[] dues = new int[12];
        final Map<Integer, Integer> left = new HashMap<>();
        final Map<Integer, Integer> paid = new HashMap<>();
        int lost;
        int broken;
        int firstYear = -1;
        int firstWho = -1;
        int payers = 255;

        Story() {
            for (int n = 0; n < names.size(); n++) {
                bearers[n] = bearerOf(n, struck);
            }
            for (int l = 0; l < lines.size(); l++) {
                dues[l] = due(lines.get(l), struck);
            }
            again(255);
        }

        Story again(int whoPay) {
            payers = whoPay;
            lost = 0;
            broken = 0;
            paid.clear();
            for (int n = 0; n < names.size(); n++) {
                left.put(n, names.get(n).has());
            }
            return this;
        }

        Story loses(int year, int ship) {
            lost |= 1 << ship;
            for (int l = 0; l < lines.size(); l++) {
                Line line = lines.get(l);
                int due = dues[l];
                int payer = counts(line, struck) ? bearers[line.name()] : -1;
                if (line.ship() != ship || !in(payers, payer)) {
                    continue;
                }
                int pays = Math.min(due, left.get(payer));
                if (due > left.get(payer) && !names.get(payer).drowned()) {
                    if (broken == 0) {
                        firstYear = year;
                        firstWho = payer;
                    }
                    broken |= 1 << payer;
                }
                left.merge(payer, -pays, Integer::sum);
                paid.merge(ship, pays, Integer::sum);
            }
            return this;
        }
    }

    private Story told(int last) {
        // The loss that counts of each ship: the least year, then the first told.
        Map<Integer, Integer> counting = new HashMap<>();
        for (int i = 0; i < losses.size(); i++) {
            int[] l = losses.get(i);
            if (!isShip(l[1])) {
                continue;
            }
            Integer other = counting.get(l[1]);
            if (other == null || losses.get(other)[0] > l[0]) {
                counting.put(l[1], i);
            }
        }
        TreeMap<Integer, int[]> order = new TreeMap<>();
        for (int i : counting.values()) {
            order.put(losses.get(i)[0] * 100 + i, losses.get(i));
        }
        Story story = new Story();
        for (int[] l : order.values()) {
            if (l[0] <= last) {
                story.loses(l[0], l[1]);
            }
        }
        return story;
    }

    public int left(int year, int name) {
        return year < 0 || year > 29 || !isName(name) ? -2 : told(year).left.get(name);
    }

    public int behind(int year, int what) {
        if (year < 0 || year > 29 || what < 0 || what > 1) {
            return -2;
        }
        return what == 0 ? told(year).broken : told(year).lost;
    }

    public int paid(int year, int ship) {
        return year < 0 || year > 29 || !isShip(ship) ? -2 : told(year).paid.getOrDefault(ship, 0);
    }

    public int first(int what) {
        if (what < 0 || what > 1) {
            return -2;
        }
        return what == 0 ? told(29).firstYear : told(29).firstWho;
    }

    // ---- plans

    public int safe() {
        int safe = 0;
        for (int ship = 0; ship < ships().size(); ship++) {
            safe += new Story().loses(0, ship).broken == 0 ? 1 << ship : 0;
        }
        return safe;
    }

    public int take(int ship) {
        if (!isShip(ship)) {
            return -2;
        }
        List<Name> names = names();
        int worth = ships().get(ship).worth();
        int best = -1;
        int bestRank = Integer.MAX_VALUE;
        for (int set = 0; set < 1 << names.size(); set++) {
            int has = 0;
            for (int n = 0; n < names.size(); n++) {
                has += in(set, n) ? names.get(n).has() : 0;
            }
            int rank = (Integer.bitCount(set) * 1000 + has) * 256 + set;
            if ((set & struck) == 0 && has >= worth && rank < bestRank) {
                best = set;
                bestRank = rank;
            }
        }
        return best;
    }

    public int strike(int name, int other) {
        if (!isName(name) || !isName(other)) {
            return -1002;
        }
        int more = 0;
        for (int ship = 0; ship < ships().size(); ship++) {
            more += borneBy(ship, name, struck | 1 << other) - borneBy(ship, name, struck);
        }
        return more;
    }

    // ---- seen, premiums, storms

    public int seen(int ship, int paid) {
        if (ship < 0 || ship > 5 || paid < 0 || paid > 999) {
            return -2;
        }
        if (seen.size() == 8) {
            return -4;
        }
        seen.add(new int[] {ship, paid});
        return seen.size();
    }

    public int forget() {
        int had = seen.size();
        seen.clear();
        return had;
    }

    private List<Integer> soundSets() {
        List<Integer> sets = new ArrayList<>();
        int ships = ships().size();
        int names = names().size();
        Story story = new Story();
        for (int set = 0; set < 1 << names; set++) {
            boolean fits = true;
            for (int[] s : seen) {
                int paid = s[0] < ships ? paidAlone(story, s[0], set) : 0;
                fits &= paid == s[1];
            }
            if (fits) {
                sets.add(set);
            }
        }
        return sets;
    }

    private int paidAlone(Story story, int ship, int set) {
        return story.again(set).loses(0, ship).paid.getOrDefault(ship, 0);
    }

    /** No call, but a help for tests. */
    String textOf(int text) {
        return isText(text) ? texts[text].toString() : "";
    }

    /** What is paid for a ship lost alone if these alone pay; no call, but a help for tests. */
    int paidBy(int ship, int set) {
        return isShip(ship) ? paidAlone(new Story(), ship, set) : 0;
    }

    public int sound(int what) {
        if (what < 0 || what > 1) {
            return -2;
        }
        List<Integer> sets = soundSets();
        return what == 0 ? sets.size() : sets.isEmpty() ? -1 : sets.get(0);
    }

    public int press() {
        int best = -1;
        int bestMost = Integer.MAX_VALUE;
        List<Integer> sets = soundSets();
        Story story = new Story();
        for (int ship = 0; ship < ships().size(); ship++) {
            Map<Integer, Integer> groups = new HashMap<>();
            int most = 0;
            for (int set : sets) {
                most = Math.max(most, groups.merge(paidAlone(story, ship, set), 1, Integer::sum));
            }
            if (most < bestMost) {
                best = ship;
                bestMost = most;
            }
        }
        return best;
    }

    private static long fraction(BigInteger above, BigInteger below, int what) {
        BigInteger g = above.gcd(below);
        return (what == 0 ? above : below).divide(g).longValueExact();
    }

    public long fair(int name, int what) {
        if (!isName(name) || what < 0 || what > 1) {
            return Long.MIN_VALUE + 2;
        }
        BigInteger above = BigInteger.ZERO;
        for (int ship = 0; ship < ships().size(); ship++) {
            above = above.add(BigInteger.valueOf(
                (long) ships().get(ship).risk() * borneBy(ship, name, struck)));
        }
        return fraction(above, BigInteger.valueOf(16), what);
    }

    private BigInteger stormCases(Story story, List<Ship> ships, List<Integer> lost, int at,
            int name, int left) {
        if (at == ships.size()) {
            story.again(255);
            lost.forEach(ship -> story.loses(0, ship));
            return story.left.get(name) >= left ? BigInteger.ONE : BigInteger.ZERO;
        }
        int risk = ships.get(at).risk();
        BigInteger stays = stormCases(story, ships, lost, at + 1, name, left);
        lost.add(at);
        BigInteger sinks = stormCases(story, ships, lost, at + 1, name, left);
        lost.remove(lost.size() - 1);
        return sinks.multiply(BigInteger.valueOf(risk))
            .add(stays.multiply(BigInteger.valueOf(16 - risk)));
    }

    public long storm(int name, int left, int what) {
        if (!isName(name) || left < 0 || left > 99 || what < 0 || what > 1) {
            return Long.MIN_VALUE + 2;
        }
        BigInteger above = stormCases(new Story(), ships(), new ArrayList<>(), 0, name, left);
        return fraction(above, BigInteger.valueOf(16).pow(ships().size()), what);
    }

    public int years(int seed, int n, int name, int what) {
        if (n < 1 || n > 30 || !isName(name) || what < 0 || what > 1) {
            return -2;
        }
        List<Ship> ships = ships();
        Story story = new Story();
        BigInteger now = BigInteger.valueOf(seed);
        for (int year = 0; year < n; year++) {
            for (int ship = 0; ship < ships.size(); ship++) {
                if (in(story.lost, ship)) {
                    continue;
                }
                now = now.multiply(BigInteger.valueOf(1103515245)).add(BigInteger.valueOf(12345))
                    .mod(BigInteger.ONE.shiftLeft(32));
                int lot = now.shiftRight(16).mod(BigInteger.valueOf(16)).intValueExact();
                if (lot < ships.get(ship).risk()) {
                    story.loses(year, ship);
                }
            }
        }
        return what == 0 ? story.left.get(name) : Integer.bitCount(story.lost);
    }

    // ---- sheets

    private int found(int number) {
        finding = number;
        return -10 - number;
    }

    private static int lowest(int form, int v) {
        return form == 0 ? (byte) v : form == 1 ? (short) v : v;
    }

    public int sheet(int s, int form, int n) {
        if (s < 0 || s > 3 || form < 0 || form > 2 || n > 60) {
            return -2;
        }
        if (n < 0) {
            return found(5);
        }
        sheets[s] = new int[n];
        forms[s] = form;
        return n;
    }

    public int lose(int s) {
        if (s < 0 || s > 3) {
            return -2;
        }
        if (sheets[s] == null) {
            return found(1);
        }
        int had = sheets[s].length;
        sheets[s] = null;
        return had;
    }

    private int findingOf(int s, int form, int i) {
        if (sheets[s] == null) {
            return 1;
        }
        if (forms[s] != form) {
            return 3;
        }
        return i < 0 || i >= sheets[s].length ? 2 : 0;
    }

    public int lay(int s, int form, int i, int v) {
        if (s < 0 || s > 3 || form < 0 || form > 2) {
            return -2;
        }
        int found = findingOf(s, form, i);
        if (found != 0) {
            return found(found);
        }
        sheets[s][i] = lowest(form, v);
        return 1;
    }

    public int get(int s, int form, int i) {
        if (s < 0 || s > 3 || form < 0 || form > 2) {
            return Integer.MIN_VALUE;
        }
        int found = findingOf(s, form, i);
        if (found != 0) {
            found(found);
            return Integer.MIN_VALUE;
        }
        return sheets[s][i];
    }

    public int copy(int s, int i, int t, int j, int n) {
        if (s < 0 || s > 3 || t < 0 || t > 3) {
            return -2;
        }
        if (sheets[s] == null || sheets[t] == null) {
            return found(1);
        }
        if (forms[s] != forms[t]) {
            return found(4);
        }
        if (i < 0 || j < 0 || n < 0
                || (long) i + n > sheets[s].length || (long) j + n > sheets[t].length) {
            return found(2);
        }
        int[] were = sheets[s].clone();
        for (int k = 0; k < n; k++) {
            sheets[t][j + k] = were[i + k];
        }
        return 1;
    }

    public int write(int year, int s) {
        if (year < 0 || year > 29 || s < 0 || s > 3) {
            return -2;
        }
        if (sheets[s] == null) {
            return found(1);
        }
        Story story = told(year);
        int n = 0;
        while (n < sheets[s].length && n < names().size()) {
            sheets[s][n] = lowest(forms[s], story.left.get(n));
            n++;
        }
        return n;
    }

    public int count(int what) {
        if (what < 0 || what > 8) {
            return -2;
        }
        return new int[] {ships().size(), names().size(), lines().size(), texts[0].length(),
            texts[1].length(), texts[2].length(), losses.size(), seen.size(), finding}[what];
    }

    public long digest() {
        List<Long> told = new ArrayList<>();
        for (int what = 0; what < 8; what++) {
            told.add((long) count(what));
        }
        for (int text = 0; text < 3; text++) {
            told.add((long) fault(text));
        }
        for (int s = 0; s < ships().size(); s++) {
            for (int answer : new int[] {
                    ship(s, 0), ship(s, 1), unborne(s), borne(s, 0), paid(9, s), take(s)}) {
                told.add((long) answer);
            }
        }
        for (int n = 0; n < names().size(); n++) {
            for (long answer : new long[] {
                    name(n, 0), name(n, 1), name(n, 2), bearer(n, 0), bearer(n, 1), bearer(n, 2),
                    left(9, n), strike(0, n), fair(n, 0), fair(n, 1), storm(n, 9, 0),
                    storm(n, 9, 1), years(7, 9, n, 0), years(7, 9, n, 1)}) {
                told.add(answer);
            }
        }
        for (int l = 0; l < lines().size(); l++) {
            for (int what = 0; what < 4; what++) {
                told.add((long) line(l, what));
            }
        }
        for (int answer : new int[] {
                behind(0, 0), behind(0, 1), behind(9, 0), behind(9, 1), behind(29, 0),
                behind(29, 1), first(0), first(1), safe(), sound(0), sound(1), press()}) {
            told.add((long) answer);
        }
        long h = 17;
        for (long answer : told) {
            h = 31 * h + answer;
        }
        return h;
    }
}
