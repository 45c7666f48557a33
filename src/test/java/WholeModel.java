import java.util.ArrayList;
import java.util.List;
import java.util.regex.Matcher;
import java.util.regex.Pattern;

/** The Model with all that lasts from call to call: being DOWN, texts, SHELVES, THE IMAGE; every call by its name. */
final class WholeModel {
    static final int IAE = -101;
    static final int ISE = -102;
    private static final int NONE = Model.NONE;
    private static final int[] SKIP = {-128, -32768, Integer.MIN_VALUE};
    private static final int[] MOST = {11, 20, 11, 20, 400, 200, 11};
    private static final String STATEMENT = "(?:[clw][0-9]{4}|[gh][0-9]{3}|[an][0-9]{2}|o[0-9]{5}|f);";
    private static final Pattern TEXT = Pattern.compile("(?:" + STATEMENT + ")+");

    Model m = new Model();
    int down = NONE;
    private Model image;
    private int imageDown;
    // Of each SHELF: -1 nothing, 0 a KIND, 1 a ROW.
    private final int[] held = {-1, -1, -1, -1, -1, -1, -1, -1};
    private final int[] kind = new int[8];
    private final int[] figure = new int[8];
    private final int[] sort = new int[8];
    private final int[][] row = new int[8][];

    private static boolean in(int least, int v, int most) {
        return least <= v && v <= most;
    }

    private static Model whole(Model m) {
        Model copy = m.copy();
        copy.houses = new ArrayList<>(m.houses);
        return copy;
    }

    private void settle() {
        down = down == NONE ? m.falls() : down;
    }

    long answer(String name, int... a) {
        long told = told(name, a);
        if (told == Long.MIN_VALUE) {
            told = stands(name, a);
        }
        if (told == Long.MIN_VALUE) {
            told = firesAndHouses(name, a);
        }
        return told == Long.MIN_VALUE ? rest(name, a) : told;
    }

    // ---- the town as told.

    private long told(String name, int[] a) {
        switch (name) {
            case "town": return wanted(a[0], 1) != 0 ? wanted(a[0], 1) : sort[a[0]] != 0 ? -12 : town(row[a[0]]);
            case "cell": return cell(a[0], a[1]);
            case "cuts": return in(0, a[0], 11) ? lays(a[0], 1, 0) : -1;
            case "lays": return !in(0, a[1], 11) ? -1 : wanted(a[0], 0) != 0 ? wanted(a[0], 0)
                : lays(a[1], kind[a[0]], figure[a[0]]);
            case "set": return !in(0, a[0], 6) || !in(a[0] == 5 ? 20 : 0, a[1], MOST[a[0]]) ? -1
                : down != NONE ? -3 : set(a[0], a[1]);
            case "house": return !in(0, a[0], 11) || !in(0, a[1], 240) ? -1 : house(a[0], a[1]) ? m.houses.size() - 1 : -2;
            case "about": return !in(0, a[0], m.houses.size() - 1) || !in(0, a[1], 1) ? -1 : m.houses.get(a[0])[a[1]];
            case "light": return light() ? m.burning() : -3;
            case "minutes": return !in(1, a[0], 99) ? -1 : passes(a[0]) ? m.minute : -3;
            case "anew": return anew();
            default: return Long.MIN_VALUE;
        }
    }

    private long cell(int c, int what) {
        if (!in(0, c, 11) || !in(0, what, 3)) {
            return -1;
        }
        return new int[] {m.kind[c], m.figure[c], m.bears(c), m.burns(c)}[what];
    }

    private int lays(int c, int k, int f) {
        if (down != NONE) {
            return -3;
        }
        int was = m.kind[c];
        m = m.with(c, k, f);
        settle();
        return was;
    }

    private int set(int what, int v) {
        int[] told = {m.leanSide, m.inches, m.windSide, m.miles, m.weight, m.height, m.lane};
        int was = told[what];
        told[what] = v;
        m.leanSide = told[0];
        m.inches = told[1];
        m.windSide = told[2];
        m.miles = told[3];
        m.weight = told[4];
        m.height = told[5];
        m.lane = told[6];
        settle();
        return was;
    }

    private boolean house(int side, int far) {
        return m.houses.size() < 6 && m.houses.add(new int[] {side, far});
    }

    private boolean light() {
        boolean can = !m.lit && down == NONE;
        m.lit = m.lit || can;
        return can;
    }

    private boolean passes(int n) {
        if (n == 0 || !m.lit || down != NONE || m.minute + n > 999) {
            return false;
        }
        for (int k = 0; k < n && down == NONE; k++) {
            m.minute++;
            settle();
        }
        return true;
    }

    private int anew() {
        m.kind = new int[12];
        m.figure = new int[12];
        m.lit = false;
        m.minute = 0;
        down = NONE;
        settle();
        return 0;
    }

    private int town(int[] bytes) {
        StringBuilder s = new StringBuilder();
        for (int b : bytes) {
            s.append((char) (b & 255));
        }
        if (!TEXT.matcher(s).matches()) {
            return -1000 - firstFault(s.toString());
        }
        Model before = whole(m);
        int downBefore = down;
        Matcher statements = Pattern.compile(STATEMENT).matcher(s);
        int many = 0;
        while (statements.find()) {
            if (!obeys(statements.group())) {
                m = before;
                down = downBefore;
                return -2000 - statements.start();
            }
            many++;
        }
        return many;
    }

    /** How long a beginning of the text some TOWN goes on with. */
    private static int firstFault(String s) {
        int longest = 0;
        for (int k = 1; k <= s.length(); k++) {
            Matcher beginning = TEXT.matcher(s.substring(0, k));
            longest = beginning.matches() || beginning.hitEnd() ? k : longest;
        }
        return longest;
    }

    private boolean obeys(String s) {
        switch (s.charAt(0)) {
            case 'o': return number(s, 1, 3) <= 11 && number(s, 3, 6) <= 240 && house(number(s, 1, 3), number(s, 3, 6));
            case 'c': return number(s, 1, 3) <= 11 && number(s, 3, 4) <= 7
                && lays(number(s, 1, 3), number(s, 3, 4), number(s, 4, 5)) >= 0;
            case 'l': return pair(0, number(s, 1, 3), number(s, 3, 5));
            case 'w': return pair(2, number(s, 1, 3), number(s, 3, 5));
            case 'g': return told("set", new int[] {4, number(s, 1, 4)}) >= 0;
            case 'h': return told("set", new int[] {5, number(s, 1, 4)}) >= 0;
            case 'a': return told("set", new int[] {6, number(s, 1, 3)}) >= 0;
            case 'f': return light();
            default: return passes(number(s, 1, 3));
        }
    }

    private static int number(String s, int from, int to) {
        return Integer.parseInt(s.substring(from, to));
    }

    /** Both numbers come at once: between them it can't FALL. */
    private boolean pair(int what, int side, int much) {
        if (side > 11 || much > 20 || down != NONE) {
            return false;
        }
        set(what, side);
        down = NONE;
        set(what + 1, much);
        return true;
    }

    // ---- how it stands.

    private long stands(String name, int[] a) {
        boolean side = a.length > 0 && in(0, a[0], 11);
        switch (name) {
            case "presses": return side ? m.presses(a[0]) : -1000000001;
            case "holds": return side ? m.holds(a[0]) : -1;
            case "lacks": return side ? m.lacks(a[0]) : -1000000001;
            case "falls": return down;
            case "canCut": return down != NONE ? -3 : m.canCut();
            case "weakest": return down != NONE ? -3 : m.weakest();
            case "forLane": return down != NONE ? -3 : m.forLane();
            case "order": return order(a[0], a[1]);
            case "round": return down != NONE ? -3 : m.round();
            case "moreOn": return down != NONE ? -3 : m.moreOn();
            default: return Long.MIN_VALUE;
        }
    }

    private int order(int set, int i) {
        if (!in(1, set, 4095) || Integer.bitCount(set) > 8 || i < 0) {
            return -1;
        }
        if (down != NONE) {
            return -3;
        }
        List<Integer> order = m.order(set, 0);
        return order == null || i >= order.size() ? NONE : order.get(i);
    }

    // ---- fires, winds, houses.

    private long firesAndHouses(String name, int[] a) {
        boolean two = a.length > 0 && in(0, a[0], 1);
        switch (name) {
            case "will": return !two ? -1 : down != NONE ? -3 : a[0] == 0 ? m.will() : m.willSide();
            case "thick": return !two ? -1 : down != NONE ? -3 : m.thick(a[0]);
            case "winds": return !two ? -1 : down != NONE ? -3 : m.winds(a[0]);
            case "anyWind": return !two ? -1000000001 : down != NONE ? -1000000003 : m.anyWind(a[0]);
            case "unlike": return !two ? -1000000001 : down != NONE || m.burning() > 6 ? -1000000003 : m.unlike(a[0]);
            case "wedge": return down != NONE ? -3 : m.wedge();
            case "sits": return down != NONE || m.lit ? -3 : m.sits();
            case "hits": return !in(0, a[0], 11) || !in(0, a[1], 3) ? -1
                : new int[] {m.hits(a[0]), m.topSide(a[0]), m.topFar(), m.kicked(a[0])}[a[1]];
            case "sendOut": return m.sendOut();
            case "crowd": return in(0, a[0], 11) ? m.crowd(a[0]) : -1;
            case "safest": return m.safest();
            case "fell": return houseRow(a[0]) != 0 ? houseRow(a[0])
                : m.fell(row[a[0]], row[a[0]].length - 1, SKIP[sort[a[0]]]);
            case "forged": return houseRow(a[0]) != 0 ? houseRow(a[0]) : m.forged(row[a[0]], SKIP[sort[a[0]]]);
            case "judge": return wanted(a[0], 1) != 0 ? wanted(a[0], 1) : down != NONE ? -3
                : m.judge(row[a[0]], SKIP[sort[a[0]]]);
            case "days": return !in(1, a[0], 20) || !in(0, a[2], 1) ? -1 : down != NONE ? -3 : m.days(a[0], a[1], a[2]);
            default: return Long.MIN_VALUE;
        }
    }

    private int houseRow(int d) {
        return wanted(d, 1) != 0 ? wanted(d, 1) : row[d].length > m.houses.size() ? -13 : 0;
    }

    // ---- the image, what is told, shelves.

    private long rest(String name, int[] a) {
        switch (name) {
            case "image":
                image = whole(m);
                imageDown = down;
                return m.minute;
            case "restore": return image == null ? -3 : restore();
            case "count": return in(0, a[0], 7) ? counts()[a[0]] : -1;
            case "keep": return keep(a);
            case "row": return row(a[0], a[1], a[2]);
            case "put": return put(a[0], a[1], a[2]);
            case "element": return !in(0, a[0], 7) ? IAE : held[a[0]] != 1 || !in(0, a[1], row[a[0]].length - 1) ? ISE
                : row[a[0]][a[1]];
            case "copy": return copy(a);
            case "cost": return wanted(a[0], 0) != 0 ? wanted(a[0], 0) : cost(kind[a[0]], figure[a[0]]);
            case "toss": return wanted(a[0], 0) != 0 ? wanted(a[0], 0) : toss(kind[a[0]], figure[a[0]]);
            default: throw new IllegalStateException("no call " + name);
        }
    }

    private int restore() {
        m = whole(image);
        down = imageDown;
        return m.minute;
    }

    private int[] counts() {
        int all = 0;
        for (int c = 0; c < 12; c++) {
            all += m.bears(c);
        }
        return new int[] {m.houses.size(), m.minute, m.lit ? 1 : 0, down != NONE ? 1 : 0, m.bearing(), all, m.lane,
            m.height};
    }

    /** The REFUSAL if SHELF d does not hold a KIND (0), a ROW (1), else 0. */
    private int wanted(int d, int what) {
        return !in(0, d, 7) ? -1 : held[d] == -1 ? -11 : held[d] != what ? -12 : 0;
    }

    private int keep(int[] a) {
        boolean isOne = a[1] == 1 && in(0, a[2], 7) && in(0, a[3], 9);
        if (!in(0, a[0], 7) || !(a[1] == 0 || isOne)) {
            return -1;
        }
        held[a[0]] = a[1] - 1;
        kind[a[0]] = a[2];
        figure[a[0]] = a[3];
        return 0;
    }

    private int row(int d, int s, int n) {
        if (!in(0, d, 7) || !in(0, s, 2) || n > 100) {
            return -1;
        }
        if (n < 0) {
            return -14;
        }
        held[d] = 1;
        sort[d] = s;
        row[d] = new int[n];
        return 0;
    }

    private int put(int d, int i, int v) {
        if (wanted(d, 1) != 0) {
            return wanted(d, 1);
        }
        if (!in(0, i, row[d].length - 1)) {
            return -13;
        }
        int over = sort[d] == 0 ? 24 : sort[d] == 1 ? 16 : 0;
        row[d][i] = v << over >> over;
        return 0;
    }

    private int copy(int[] a) {
        int d = a[0];
        int e = a[2];
        if (!in(0, d, 7) || !in(0, e, 7)) {
            return -1;
        }
        if (held[d] == -1 || held[e] == -1) {
            return -11;
        }
        if (held[d] == 0 || held[e] == 0 || sort[d] != sort[e]) {
            return -12;
        }
        if (a[4] < 0 || !in(0, a[1], row[d].length) || a[4] > row[d].length - a[1]
            || !in(0, a[3], row[e].length) || a[4] > row[e].length - a[3]) {
            return -13;
        }
        int[] from = row[d].clone();
        for (int k = 0; k < a[4]; k++) {
            row[e][a[3] + k] = from[a[1] + k];
        }
        return a[4];
    }

    private static int cost(int k, int f) {
        return new int[] {1, 5, f + 2, f + 1, 2, 6, 2 * (f + 2), 9 + f}[k];
    }

    private static int toss(int k, int f) {
        if (k == 1 || f == 0) {
            return -15;
        }
        return k == 6 ? 200 + cost(k, f) : k == 2 || k == 3 ? 100 + f : f;
    }
}
