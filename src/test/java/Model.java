import java.util.ArrayList;
import java.util.List;

/**
 * The document's words once more, in their slowest form: every MINUTE, every
 * set and every order is looked at, nothing is left out because it can't matter.
 */
final class Model implements Cloneable {
    static final int NONE = -4;
    static final int[][] WAY = {{0, 10}, {5, 9}, {9, 5}, {10, 0}, {9, -5}, {5, -9},
        {0, -10}, {-5, -9}, {-9, -5}, {-10, 0}, {-9, 5}, {-5, 9}};

    int[] kind = new int[12];
    int[] figure = new int[12];
    int[] shift = new int[12];
    int leanSide;
    int inches;
    int windSide;
    int miles;
    int weight = 150;
    int height = 140;
    int lane;
    boolean lit;
    int minute;
    List<int[]> houses = new ArrayList<>();

    Model copy() {
        try {
            Model m = (Model) clone();
            m.kind = kind.clone();
            m.figure = figure.clone();
            m.shift = shift.clone();
            return m;
        } catch (CloneNotSupportedException e) {
            throw new IllegalStateException(e);
        }
    }

    Model with(int c, int k, int f) {
        Model m = copy();
        m.kind[c] = k;
        m.figure[c] = f;
        return m;
    }

    Model cut(int set) {
        Model m = copy();
        for (int c = 0; c < 12; c++) {
            if ((set & 1 << c) != 0) {
                m.kind[c] = 1;
                m.figure[c] = 0;
            }
        }
        return m;
    }

    Model at(int someMinute) {
        Model m = copy();
        m.minute = someMinute;
        return m;
    }

    static int wrap(int side) {
        return (side + 24) % 12;
    }

    static int alike(int a, int b) {
        return WAY[a][0] * WAY[b][0] + WAY[a][1] * WAY[b][1];
    }

    int burns(int c) {
        int prop = 4 + 2 * figure[c];
        int burns = kind[c] == 2 ? prop : kind[c] == 3 ? prop * 2 : kind[c] == 6 ? prop / 2 : NONE;
        return burns == NONE ? NONE : burns + shift[c] * (burns / 3);
    }

    int unburnt(int c) {
        int f = figure[c];
        int[] bears = {9, 0, f, f + 2, 4, 9 - f / 3, f, 11};
        return bears[kind[c]];
    }

    int bears(int c) {
        return burns(c) != NONE && minute >= burns(c) ? 0 : unburnt(c);
    }

    int bearing() {
        int n = 0;
        for (int c = 0; c < 12; c++) {
            n += bears(c) > 0 ? 1 : 0;
        }
        return n;
    }

    int burning() {
        int n = 0;
        for (int c = 0; c < 12; c++) {
            n += kind[c] == 2 || kind[c] == 3 || kind[c] == 6 ? 1 : 0;
        }
        return n;
    }

    int presses(int side) {
        return weight + (alike(side, leanSide) * inches + alike(side, windSide) * miles) / 10;
    }

    int holds(int side) {
        int sum = 0;
        for (int c = 0; c < 12; c++) {
            sum += alike(side, c) > 0 ? bears(c) * alike(side, c) : 0;
        }
        return sum / 10;
    }

    int lacks(int side) {
        return presses(side) - holds(side);
    }

    int weakest() {
        int best = 11;
        for (int side = 10; side >= 0; side--) {
            best = lacks(side) >= lacks(best) ? side : best;
        }
        return best;
    }

    int falls() {
        return lacks(weakest()) > 0 ? weakest() : NONE;
    }

    int canCut() {
        int bits = 0;
        for (int c = 0; c < 12; c++) {
            bits += bears(c) > 0 && cut(1 << c).falls() == NONE ? 1 << c : 0;
        }
        return bits;
    }

    int forLane() {
        for (int many = 0; many <= 12; many++) {
            for (int set = 0; set < 4096; set++) {
                if (Integer.bitCount(set) == many && cut(set).falls() == lane) {
                    return set;
                }
            }
        }
        return NONE;
    }

    /** All orders in turn, by CELLS rising. */
    List<Integer> order(int left, int gone) {
        if (left == 0) {
            return new ArrayList<>();
        }
        for (int c = 0; c < 12; c++) {
            int bit = 1 << c;
            boolean isLast = left == bit;
            if ((left & bit) != 0 && (isLast || cut(gone | bit).falls() == NONE)) {
                List<Integer> rest = order(left & ~bit, gone | bit);
                if (rest != null) {
                    rest.add(0, c);
                    return rest;
                }
            }
        }
        return null;
    }

    int round() {
        int set = 1 << lane;
        for (int off = 1; off <= 7; off++) {
            int side = cut(set).falls();
            if (side != NONE) {
                return side == lane ? Integer.bitCount(set) : NONE;
            }
            set |= 1 << wrap(lane + off) | 1 << wrap(lane - off);
        }
        return NONE;
    }

    int lead(int set) {
        Model m = cut(set);
        return m.lacks(lane) - Math.max(m.lacks(wrap(lane + 1)), m.lacks(wrap(lane - 1)));
    }

    int moreOn() {
        int[] leads = {lead(1 << lane), lead(1 << lane | 1 << wrap(lane + 1)), lead(1 << lane | 1 << wrap(lane - 1))};
        int best = 0;
        for (int k = 1; k < 3; k++) {
            best = leads[k] > leads[best] ? k : best;
        }
        return best;
    }

    int will() {
        for (int t = 0; t <= 60; t++) {
            if (at(minute + t).falls() != NONE) {
                return t;
            }
        }
        return NONE;
    }

    int willSide() {
        return will() == NONE ? NONE : at(minute + will()).falls();
    }

    Model propped(int f) {
        Model m = copy();
        for (int c = 0; c < 12; c++) {
            if (kind[c] == 1) {
                m.kind[c] = 2;
                m.figure[c] = f;
            }
        }
        return m;
    }

    int thick(int what) {
        int best = NONE;
        for (int f = 9; f >= 1; f--) {
            Model m = propped(f);
            if (what == 0 && m.falls() == NONE) {
                best = f;
            }
            if (what == 1 && m.willSide() == lane && (best == NONE || m.will() >= propped(best).will())) {
                best = f;
            }
        }
        return best;
    }

    int winds(int what) {
        int many = 0;
        int greatest = NONE;
        for (int v = 0; v <= 20; v++) {
            Model m = copy();
            m.miles = v;
            if (m.willSide() == lane) {
                many++;
                greatest = v;
            }
        }
        return what == 0 ? many : greatest;
    }

    static int least(int good, int all, int part) {
        for (int by = all; by > 1; by--) {
            if (good % by == 0 && all % by == 0) {
                return part == 0 ? good / by : all / by;
            }
        }
        return part == 0 ? good : all;
    }

    int anyWind(int part) {
        int good = 0;
        for (int side = 0; side < 12; side++) {
            Model m = copy();
            m.windSide = side;
            good += m.willSide() == lane ? 1 : 0;
        }
        return least(good, 12, part);
    }

    /** Ways in which it FALLS to the LANE, the CELLS from c on still to be chosen. */
    int unlikeGood(int c) {
        if (c == 12) {
            return willSide() == lane ? 1 : 0;
        }
        if (burns(c) == NONE) {
            return unlikeGood(c + 1);
        }
        int good = 0;
        for (int way = -1; way <= 1; way++) {
            Model m = copy();
            m.shift[c] = way;
            good += m.unlikeGood(c + 1);
        }
        return good;
    }

    int unlike(int part) {
        int all = 1;
        for (int k = 0; k < burning(); k++) {
            all *= 3;
        }
        return least(unlikeGood(0), all, part);
    }

    int wedge() {
        int best = NONE;
        int least = lacks(weakest());
        for (int c = 0; c < 12; c++) {
            Model m = with(c, 7, 0);
            if (m.lacks(m.weakest()) < least) {
                least = m.lacks(m.weakest());
                best = c;
            }
        }
        return best;
    }

    int sits() {
        int[] offs = {0, 1, -1, 2, -2, 3, -3, 4, -4, 5, -5, 6};
        int set = 0;
        int many = 0;
        for (int off : offs) {
            int c = wrap(lane + off);
            if (kind[c] != 1) {
                set |= 1 << c;
                many++;
                if (cut(set).falls() != NONE) {
                    return many;
                }
            }
        }
        return NONE;
    }

    boolean breaks() {
        return minute >= 10 || miles >= 10;
    }

    int topSide(int side) {
        if (!breaks()) {
            return NONE;
        }
        if (side == windSide) {
            return side;
        }
        int up = 0;
        while (wrap(side + up) != windSide) {
            up++;
        }
        int down = 12 - up;
        return up <= down ? wrap(side + 1) : wrap(side - 1);
    }

    int topFar() {
        return breaks() ? height + (height / 3) / 2 : NONE;
    }

    int hits(int side) {
        int bits = 0;
        for (int h = 0; h < houses.size(); h++) {
            int at = houses.get(h)[0];
            int far = houses.get(h)[1];
            if (at == side && far <= height) {
                bits |= 1 << h;
            }
            if (breaks() && at == topSide(side) && far >= topFar() - 10 && far <= topFar() + 10) {
                bits |= 1 << h;
            }
        }
        return bits;
    }

    int kicked(int side) {
        int bits = 0;
        for (int h = 0; h < houses.size(); h++) {
            if (houses.get(h)[0] == wrap(side + 6) && houses.get(h)[1] <= height / 6) {
                bits |= 1 << h;
            }
        }
        return bits;
    }

    int struck(int side) {
        return hits(side) | kicked(side);
    }

    int sendOut() {
        return struck(lane) | struck(wrap(lane + 1)) | struck(wrap(lane - 1));
    }

    /** The least distance beyond which no HOUSE that stood there would be HIT or KICKED. */
    int crowd(int side) {
        for (int far = 300; far >= 1; far--) {
            boolean under = side == lane && far <= height;
            boolean top = side == topSide(lane) && far <= topFar() + 10;
            boolean kick = side == wrap(lane + 6) && far <= height / 6;
            if (under || top || kick) {
                return far;
            }
        }
        return 0;
    }

    int safest() {
        int best = 11;
        for (int side = 10; side >= 0; side--) {
            best = Integer.bitCount(struck(side)) <= Integer.bitCount(struck(best)) ? side : best;
        }
        return best;
    }

    boolean fits(int[] row, int upTo, int side, int skip) {
        for (int i = 0; i <= upTo; i++) {
            int is = (struck(side) & 1 << i) != 0 ? 1 : 0;
            if (row[i] != skip && row[i] != is) {
                return false;
            }
        }
        return true;
    }

    int fell(int[] row, int upTo, int skip) {
        int bits = 0;
        for (int side = 0; side < 12; side++) {
            bits |= fits(row, upTo, side, skip) ? 1 << side : 0;
        }
        return bits;
    }

    int forged(int[] row, int skip) {
        for (int i = 0; i < row.length; i++) {
            if (fell(row, i, skip) == 0) {
                return i;
            }
        }
        return NONE;
    }

    int judge(int[] row, int skip) {
        boolean down = false;
        for (int i = 0; i < row.length; i++) {
            Model m = at(minute + i);
            down = down || m.falls() != NONE || i > 60;
            if (row[i] != skip && (down || row[i] != m.bearing())) {
                return i;
            }
        }
        return NONE;
    }

    int days(int n, int z, int what) {
        int toLane = 0;
        int struck = 0;
        int[] seed = {z};
        for (int day = 0; day < n; day++) {
            Model m = copy();
            m.windSide = draw(seed, 12);
            m.miles = draw(seed, 21);
            int side = m.willSide();
            if (side != NONE) {
                toLane += side == lane ? 1 : 0;
                struck += Integer.bitCount(m.at(minute + m.will()).struck(side));
            }
        }
        return what == 0 ? toLane : struck;
    }

    static int draw(int[] seed, int below) {
        long wide = seed[0] * 1103515245L + 12345L;
        seed[0] = (int) wide;
        long unsigned = wide & 0x7fffffffL;
        return (int) (unsigned / 65536L % below);
    }
}
