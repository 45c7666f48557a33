/**
 * A chimney on a foot of twelve cells that are cut out, propped and burnt till
 * it falls. The words in capitals are the terms of the document (DOC.md).
 */
public final class LaidDownTheLane {

    private static final int SIDES = 12;
    private static final int ALL_SIDES = 4095;
    private static final int SHELVES = 8;
    private static final int MOST_HOUSES = 6;
    private static final int MOST_FAR = 240;
    private static final int MOST_ELEMENTS = 100;
    private static final int MOST_FIGURE = 9;
    private static final int MOST_MILES = 20;
    private static final int MOST_IN_ORDER = 8;
    private static final int MOST_UNLIKE = 6;
    private static final int MOST_DAYS = 20;
    private static final int MOST_PASSING = 99;
    private static final int LAST_MINUTE = 999;
    private static final int AHEAD_MINUTES = 60;

    private static final int NO_SUCH = -1;
    private static final int NO_ROOM = -2;
    private static final int NOT_SO = -3;
    private static final int NONE = -4;
    private static final int NOTHING_HELD = -11;
    private static final int OTHER_KIND = -12;
    private static final int NO_PLACE = -13;
    private static final int BELOW_ZERO = -14;
    private static final int NO_FAILURE = -15;
    private static final int FAR_NO_SUCH = -1000000001;
    private static final int FAR_NOT_SO = -1000000003;
    private static final int UNREADABLE = -1000;
    private static final int UNDOABLE = -2000;

    private static final int BYTES = 0;
    private static final int SHORTS = 1;
    private static final int INTS = 2;
    private static final int[] LEAST_OF_SORT = {-128, -32768, -2147483648};

    private static final int BRICK_BEARS = 9;
    private static final int CUT = 1;

    // What set() tells, by its numbers; LEAST and MOST are their ranges.
    private static final int LEAN_SIDE = 0;
    private static final int INCHES = 1;
    private static final int WIND_SIDE = 2;
    private static final int MILES = 3;
    private static final int WEIGHT = 4;
    private static final int HEIGHT = 5;
    private static final int LANE = 6;
    private static final int TOLD = 7;
    private static final int[] LEAST = {0, 0, 0, 0, 0, 20, 0};
    private static final int[] MOST = {11, 20, 11, 20, 400, 200, 11};

    private static final int[] AHEAD = {0, 5, 9, 10, 9, 5, 0, -5, -9, -10, -9, -5};
    private static final int[] ASIDE = {10, 9, 5, 0, -5, -9, -10, -9, -5, 0, 5, 9};

    private final Town now;
    private final Town trial;
    private final Town taken;
    private boolean imageTaken;
    private final Brick cut;
    private final Brick[] kinds;
    private final Row[] rows;

    public LaidDownTheLane() {
        now = new Town();
        trial = new Town();
        taken = new Town();
        cut = new Cut(0);
        kinds = new Brick[SHELVES];
        rows = new Row[SHELVES];
    }

    // ---- the town as told.

    public int town(int d) {
        Row text = rowOn(d);
        if (text == null) {
            return refusal(d);
        }
        if (text.sort != BYTES) {
            return OTHER_KIND;
        }
        int unread = firstUnread(text);
        if (unread != NONE) {
            return UNREADABLE - unread;
        }
        trial.takeFrom(now);
        int statements = 0;
        int place = 0;
        while (place < text.size() && statements < MOST_ELEMENTS) {
            if (!obeys(trial, text, place)) {
                return UNDOABLE - place;
            }
            trial.settle();
            statements++;
            place += lengthOf(text.at(place));
        }
        now.takeFrom(trial);
        return statements;
    }

    public int cell(int c, int what) {
        if (!isSide(c)) {
            return NO_SUCH;
        }
        switch (what) {
            case 0: return now.foot[c].kind();
            case 1: return now.foot[c].figure;
            case 2: return now.bearsAt(c, now.minute);
            case 3: return now.burns[c];
            default: return NO_SUCH;
        }
    }

    public int cuts(int c) {
        if (!isSide(c)) {
            return NO_SUCH;
        }
        return comesTo(c, cut);
    }

    public int lays(int d, int c) {
        if (!isSide(c)) {
            return NO_SUCH;
        }
        Brick one = kindOn(d);
        if (one == null) {
            return refusal(d);
        }
        return comesTo(c, one);
    }

    public int set(int what, int v) {
        if (!isAsTold(what, v)) {
            return NO_SUCH;
        }
        if (now.isDown()) {
            return NOT_SO;
        }
        int was = now.told[what];
        now.told[what] = v;
        now.settle();
        return was;
    }

    public int house(int side, int far) {
        if (!isSide(side) || far < 0 || far > MOST_FAR) {
            return NO_SUCH;
        }
        return now.addHouse(side, far) ? now.houses - 1 : NO_ROOM;
    }

    public int about(int house, int what) {
        if (house < 0 || house >= now.houses) {
            return NO_SUCH;
        }
        switch (what) {
            case 0: return now.houseSide[house];
            case 1: return now.houseFar[house];
            default: return NO_SUCH;
        }
    }

    public int light() {
        return now.kindle() ? now.countBurning() : NOT_SO;
    }

    public int minutes(int n) {
        if (n < 1 || n > MOST_PASSING) {
            return NO_SUCH;
        }
        return now.passes(n) ? now.minute : NOT_SO;
    }

    public int anew() {
        now.renew();
        now.settle();
        return 0;
    }

    // ---- how it stands.

    public int presses(int side) {
        return isSide(side) ? now.pressOn(side) : FAR_NO_SUCH;
    }

    public int holds(int side) {
        return isSide(side) ? now.holdOn(side, now.minute) : NO_SUCH;
    }

    public int lacks(int side) {
        return isSide(side) ? now.lackOn(side, now.minute) : FAR_NO_SUCH;
    }

    public int falls() {
        return now.fallenTo;
    }

    public int canCut() {
        if (now.isDown()) {
            return NOT_SO;
        }
        int bits = 0;
        trial.takeFrom(now);
        for (int c = 0; c < SIDES; c++) {
            if (now.bearsAt(c, now.minute) > 0 && fallsWithout(1 << c) == NONE) {
                bits |= 1 << c;
            }
        }
        return bits;
    }

    public int weakest() {
        return now.isDown() ? NOT_SO : now.weakestSide();
    }

    public int forLane() {
        if (now.isDown()) {
            return NOT_SO;
        }
        trial.takeFrom(now);
        int found = NONE;
        int fewest = SIDES + 1;
        for (int set = 1; set <= ALL_SIDES; set++) {
            int many = Integer.bitCount(set);
            if (many < fewest && fallsWithout(set) == now.told[LANE]) {
                found = set;
                fewest = many;
            }
        }
        return found;
    }

    public int order(int set, int i) {
        if (set < 1 || set > ALL_SIDES || Integer.bitCount(set) > MOST_IN_ORDER || i < 0) {
            return NO_SUCH;
        }
        if (now.isDown()) {
            return NOT_SO;
        }
        int last = lastInOrder(set);
        int many = Integer.bitCount(set);
        if (last == NONE || i >= many) {
            return NONE;
        }
        return i == many - 1 ? last : cellOf(set & ~(1 << last), i);
    }

    public int round() {
        if (now.isDown()) {
            return NOT_SO;
        }
        trial.takeFrom(now);
        int lane = now.told[LANE];
        // With eleven CUT only the CELL behind is left: it can't bring a fall to the LANE.
        for (int k = 0; k < SIDES / 2; k++) {
            trial.replace(around(lane + k), cut);
            trial.replace(around(lane - k), cut);
            int side = trial.fallSideAt(trial.minute);
            if (side != NONE) {
                return side == lane ? 2 * k + 1 : NONE;
            }
        }
        return NONE;
    }

    public int moreOn() {
        if (now.isDown()) {
            return NOT_SO;
        }
        trial.takeFrom(now);
        int lane = now.told[LANE];
        int alone = 1 << lane;
        int neither = leadWithout(alone);
        int upward = leadWithout(alone | 1 << around(lane + 1));
        int downward = leadWithout(alone | 1 << around(lane - 1));
        if (neither >= upward && neither >= downward) {
            return 0;
        }
        return upward >= downward ? 1 : 2;
    }

    // ---- fires, winds.

    public int will(int what) {
        if (what < 0 || what > 1) {
            return NO_SUCH;
        }
        if (now.isDown()) {
            return NOT_SO;
        }
        int after = now.fallAfter(AHEAD_MINUTES);
        if (what == 0 || after == NONE) {
            return after;
        }
        return now.fallSideAt(now.minute + after);
    }

    public int thick(int what) {
        if (what < 0 || what > 1) {
            return NO_SUCH;
        }
        if (now.isDown()) {
            return NOT_SO;
        }
        trial.takeFrom(now);
        int found = NONE;
        int latest = NONE;
        for (int figure = 1; figure <= MOST_FIGURE; figure++) {
            propCuts(figure);
            if (what == 0 && trial.fallSideAt(trial.minute) == NONE) {
                return figure;
            }
            int after = what == 0 ? NONE : trial.fallToLaneAfter();
            if (after > latest) {
                latest = after;
                found = figure;
            }
        }
        return found;
    }

    public int winds(int what) {
        if (what < 0 || what > 1) {
            return NO_SUCH;
        }
        if (now.isDown()) {
            return NOT_SO;
        }
        trial.takeFrom(now);
        int many = 0;
        int greatest = NONE;
        for (int miles = 0; miles <= MOST_MILES; miles++) {
            trial.told[MILES] = miles;
            if (trial.fallToLaneAfter() != NONE) {
                many++;
                greatest = miles;
            }
        }
        return what == 0 ? many : greatest;
    }

    public long anyWind(int part) {
        if (part < 0 || part > 1) {
            return FAR_NO_SUCH;
        }
        if (now.isDown()) {
            return FAR_NOT_SO;
        }
        trial.takeFrom(now);
        int good = 0;
        for (int side = 0; side < SIDES; side++) {
            trial.told[WIND_SIDE] = side;
            if (trial.fallToLaneAfter() != NONE) {
                good++;
            }
        }
        return partOf(good, SIDES, part);
    }

    public long unlike(int part) {
        if (part < 0 || part > 1) {
            return FAR_NO_SUCH;
        }
        int burning = now.countBurning();
        if (now.isDown() || burning > MOST_UNLIKE) {
            return FAR_NOT_SO;
        }
        trial.takeFrom(now);
        int all = 1;
        for (int k = 0; k < burning; k++) {
            all *= 3;
        }
        int good = 0;
        for (int way = 0; way < all; way++) {
            burnUnlike(way);
            if (trial.fallToLaneAfter() != NONE) {
                good++;
            }
        }
        return partOf(good, all, part);
    }

    public int wedge() {
        if (now.isDown()) {
            return NOT_SO;
        }
        trial.takeFrom(now);
        Brick wedge = new Wedge(0);
        int least = now.greatestLack();
        int found = NONE;
        for (int c = 0; c < SIDES; c++) {
            trial.replace(c, wedge);
            int lack = trial.greatestLack();
            trial.replace(c, now.foot[c]);
            if (lack < least) {
                least = lack;
                found = c;
            }
        }
        return found;
    }

    public int sits() {
        if (now.isDown() || now.lit) {
            return NOT_SO;
        }
        trial.takeFrom(now);
        int many = 0;
        for (int k = 0; k < SIDES; k++) {
            int off = k % 2 == 0 ? -k / 2 : (k + 1) / 2;
            int c = around(now.told[LANE] + off);
            if (now.foot[c].kind() != CUT) {
                trial.replace(c, cut);
                many++;
                if (trial.fallSideAt(trial.minute) != NONE) {
                    return many;
                }
            }
        }
        return NONE;
    }

    // ---- houses.

    public int hits(int side, int what) {
        if (!isSide(side)) {
            return NO_SUCH;
        }
        switch (what) {
            case 0: return now.hitBy(side, now.minute);
            case 1: return now.topSide(side, now.minute);
            case 2: return now.breaksAt(now.minute) ? now.topFar() : NONE;
            case 3: return now.kickedBy(side);
            default: return NO_SUCH;
        }
    }

    public int sendOut() {
        int lane = now.told[LANE];
        return now.struckBy(lane, now.minute)
            | now.struckBy(around(lane + 1), now.minute)
            | now.struckBy(around(lane - 1), now.minute);
    }

    public int crowd(int side) {
        if (!isSide(side)) {
            return NO_SUCH;
        }
        int lane = now.told[LANE];
        int far = 0;
        if (side == lane) {
            far = now.told[HEIGHT];
        }
        if (side == now.topSide(lane, now.minute)) {
            far = Math.max(far, now.topFar() + 10);
        }
        if (side == around(lane + 6)) {
            far = Math.max(far, now.kickFar());
        }
        return far;
    }

    public int safest() {
        int safest = 0;
        int fewest = MOST_HOUSES + 1;
        for (int side = 0; side < SIDES; side++) {
            int many = Integer.bitCount(now.struckBy(side, now.minute));
            if (many < fewest) {
                fewest = many;
                safest = side;
            }
        }
        return safest;
    }

    public int fell(int d) {
        Row row = rowOn(d);
        if (row == null) {
            return refusal(d);
        }
        if (row.size() > now.houses) {
            return NO_PLACE;
        }
        int bits = 0;
        for (int side = 0; side < SIDES; side++) {
            if (firstNotSo(row, side) == row.size()) {
                bits |= 1 << side;
            }
        }
        return bits;
    }

    public int forged(int d) {
        Row row = rowOn(d);
        if (row == null) {
            return refusal(d);
        }
        if (row.size() > now.houses) {
            return NO_PLACE;
        }
        int longest = 0;
        for (int side = 0; side < SIDES; side++) {
            longest = Math.max(longest, firstNotSo(row, side));
        }
        return longest == row.size() ? NONE : longest;
    }

    public int judge(int d) {
        Row row = rowOn(d);
        if (row == null) {
            return refusal(d);
        }
        if (now.isDown()) {
            return NOT_SO;
        }
        int after = now.fallAfter(AHEAD_MINUTES);
        // From there on no number is so, whatever it tells.
        int end = after == NONE ? AHEAD_MINUTES + 1 : after;
        for (int i = 0; i < row.size(); i++) {
            if (!row.isSkipped(i) && (i >= end || row.at(i) != now.countBearing(now.minute + i))) {
                return i;
            }
        }
        return NONE;
    }

    public int days(int n, int z, int what) {
        if (n < 1 || n > MOST_DAYS || what < 0 || what > 1) {
            return NO_SUCH;
        }
        if (now.isDown()) {
            return NOT_SO;
        }
        trial.takeFrom(now);
        int seed = z;
        int toLane = 0;
        int struck = 0;
        for (int day = 0; day < n; day++) {
            seed = nextSeed(seed);
            trial.told[WIND_SIDE] = drawn(seed) % SIDES;
            seed = nextSeed(seed);
            trial.told[MILES] = drawn(seed) % (MOST_MILES + 1);
            int after = trial.fallAfter(AHEAD_MINUTES);
            if (after != NONE) {
                int minute = trial.minute + after;
                int side = trial.fallSideAt(minute);
                toLane += side == trial.told[LANE] ? 1 : 0;
                struck += Integer.bitCount(trial.struckBy(side, minute));
            }
        }
        return what == 0 ? toLane : struck;
    }

    // ---- the image, what is told.

    public int image() {
        taken.takeFrom(now);
        imageTaken = true;
        return now.minute;
    }

    public int restore() {
        if (!imageTaken) {
            return NOT_SO;
        }
        now.takeFrom(taken);
        return now.minute;
    }

    public int count(int what) {
        switch (what) {
            case 0: return now.houses;
            case 1: return now.minute;
            case 2: return now.lit ? 1 : 0;
            case 3: return now.isDown() ? 1 : 0;
            case 4: return now.countBearing(now.minute);
            case 5: return now.allBears();
            case 6: return now.told[LANE];
            case 7: return now.told[HEIGHT];
            default: return NO_SUCH;
        }
    }

    // ---- shelves.

    public int keep(int d, int what, int k, int figure) {
        if (!isShelf(d) || what < 0 || what > 1) {
            return NO_SUCH;
        }
        Brick one = null;
        if (what == 1) {
            one = brickOf(k, figure);
            if (one == null) {
                return NO_SUCH;
            }
        }
        kinds[d] = one;
        rows[d] = null;
        return 0;
    }

    public int row(int d, int sort, int n) {
        if (!isShelf(d) || sort < BYTES || sort > INTS || n > MOST_ELEMENTS) {
            return NO_SUCH;
        }
        if (n < 0) {
            return BELOW_ZERO;
        }
        kinds[d] = null;
        rows[d] = new Row(sort, new int[n]);
        return 0;
    }

    public int put(int d, int i, int v) {
        Row row = rowOn(d);
        if (row == null) {
            return refusal(d);
        }
        return row.gets(i, v) ? 0 : NO_PLACE;
    }

    public long element(int d, int i) throws IllegalArgumentException, IllegalStateException {
        if (!isShelf(d)) {
            throw new IllegalArgumentException("no such SHELF");
        }
        Row row = rows[d];
        if (row == null || !row.has(i, 1)) {
            throw new IllegalStateException("no ROW or no such place");
        }
        return row.at(i);
    }

    public int copy(int d, int i, int e, int j, int n) {
        if (!isShelf(d) || !isShelf(e)) {
            return NO_SUCH;
        }
        if (isBare(d) || isBare(e)) {
            return NOTHING_HELD;
        }
        Row from = rows[d];
        Row to = rows[e];
        if (from == null || to == null || from.sort != to.sort) {
            return OTHER_KIND;
        }
        if (!from.has(i, n) || !to.has(j, n)) {
            return NO_PLACE;
        }
        System.arraycopy(from.elements, i, to.elements, j, n);
        return n;
    }

    public int cost(int d) {
        Brick one = kindOn(d);
        return one == null ? refusal(d) : one.price();
    }

    public int toss(int d) {
        Brick one = kindOn(d);
        if (one == null) {
            return refusal(d);
        }
        try {
            one.fail();
            return NO_FAILURE;
        } catch (IllegalArgumentException e) {
            return one.figure;
        } catch (IllegalStateException e) {
            return 100 + one.figure;
        } catch (UnsupportedOperationException e) {
            return 200 + one.price();
        }
    }

    // ---- ranges and refusals.

    private static boolean isSide(int side) {
        return side >= 0 && side < SIDES;
    }

    private static boolean isShelf(int d) {
        return d >= 0 && d < SHELVES;
    }

    private static boolean isAsTold(int what, int v) {
        return what >= 0 && what < TOLD && v >= LEAST[what] && v <= MOST[what];
    }

    private static int around(int side) {
        return Math.floorMod(side, SIDES);
    }

    private boolean isBare(int d) {
        return isShelf(d) && kinds[d] == null && rows[d] == null;
    }

    private Row rowOn(int d) {
        return isShelf(d) ? rows[d] : null;
    }

    private Brick kindOn(int d) {
        return isShelf(d) ? kinds[d] : null;
    }

    /** Why SHELF d does not hold the ROW, or the CELL's KIND, that is wanted. */
    private int refusal(int d) {
        if (!isShelf(d)) {
            return NO_SUCH;
        }
        return isBare(d) ? NOTHING_HELD : OTHER_KIND;
    }

    // ---- the text.

    /** How many digits stand behind a STATEMENT's letter; NONE if no STATEMENT begins with it. */
    private static int digitsBehind(int letter) {
        switch (letter) {
            case 'c': case 'l': case 'w': return 4;
            case 'g': case 'h': return 3;
            case 'a': case 'n': return 2;
            case 'o': return 5;
            case 'f': return 0;
            default: return NONE;
        }
    }

    /** The bytes of a STATEMENT with its letter and its ";". */
    private static int lengthOf(int letter) {
        return Math.max(0, digitsBehind(letter)) + 2;
    }

    /** The place of the first byte with which no TOWN can go on; NONE if all can be read. */
    private static int firstUnread(Row text) {
        int place = 0;
        do {
            int digits = digitsBehind(text.at(place));
            if (digits == NONE) {
                return place;
            }
            place++;
            for (int k = 0; k < digits; k++) {
                if (!text.isDigit(place)) {
                    return place;
                }
                place++;
            }
            if (text.at(place) != ';') {
                return place;
            }
            place++;
        } while (place < text.size());
        return NONE;
    }

    /** Does the STATEMENT at a place if it can be done; settling is left to the caller. */
    private static boolean obeys(Town town, Row text, int place) {
        int letter = text.at(place);
        if (letter == 'o') {
            return town.addHouse(text.number(place + 1, 2), text.number(place + 3, 3));
        }
        if (town.isDown()) {
            return false;
        }
        switch (letter) {
            case 'c': return placesCell(town, text, place);
            case 'l': return tellsPair(town, LEAN_SIDE, text, place);
            case 'w': return tellsPair(town, WIND_SIDE, text, place);
            case 'g': return town.isTold(WEIGHT, text.number(place + 1, 3));
            case 'h': return town.isTold(HEIGHT, text.number(place + 1, 3));
            case 'a': return town.isTold(LANE, text.number(place + 1, 2));
            case 'f': return town.kindle();
            case 'n': return town.passes(text.number(place + 1, 2));
            default: return false;
        }
    }

    private static boolean placesCell(Town town, Row text, int place) {
        int c = text.number(place + 1, 2);
        Brick one = brickOf(text.number(place + 3, 1), text.number(place + 4, 1));
        if (!isSide(c) || one == null) {
            return false;
        }
        town.replace(c, one);
        return true;
    }

    private static boolean tellsPair(Town town, int what, Row text, int place) {
        return town.isTold(what, text.number(place + 1, 2))
            && town.isTold(what + 1, text.number(place + 3, 2));
    }

    // ---- what is tried on the trial TOWN, which the caller took from now.

    private int comesTo(int c, Brick one) {
        if (now.isDown()) {
            return NOT_SO;
        }
        int was = now.foot[c].kind();
        now.replace(c, one);
        now.settle();
        return was;
    }

    /** Makes just the CELLS of the set CUT in the trial. */
    private void cutJust(int set) {
        for (int c = 0; c < SIDES; c++) {
            trial.replace(c, (set >> c & 1) == 1 ? cut : now.foot[c]);
        }
    }

    /** To which SIDE it FALLS, the set being CUT; NONE if it STANDS. */
    private int fallsWithout(int set) {
        cutJust(set);
        return trial.fallSideAt(trial.minute);
    }

    /**
     * CUTS never make it hold more: an order is one whose last CELL alone may
     * bring the fall, and the highest such last leaves the order's start least.
     */
    private int lastInOrder(int set) {
        trial.takeFrom(now);
        for (int c = SIDES - 1; c >= 0; c--) {
            if ((set >> c & 1) == 1 && fallsWithout(set & ~(1 << c)) == NONE) {
                return c;
            }
        }
        return NONE;
    }

    private static int cellOf(int set, int i) {
        int ahead = i;
        for (int c = 0; c < SIDES; c++) {
            if ((set >> c & 1) == 1) {
                if (ahead == 0) {
                    return c;
                }
                ahead--;
            }
        }
        return NONE;
    }

    /** By how much the LANE lacks more than both SIDES beside it, the set being CUT. */
    private int leadWithout(int set) {
        cutJust(set);
        int lane = trial.told[LANE];
        int upward = trial.lackOn(around(lane + 1), trial.minute);
        int downward = trial.lackOn(around(lane - 1), trial.minute);
        return trial.lackOn(lane, trial.minute) - Math.max(upward, downward);
    }

    private void propCuts(int figure) {
        Brick prop = new Prop(figure);
        for (int c = 0; c < SIDES; c++) {
            if (now.foot[c].kind() == CUT) {
                trial.replace(c, prop);
            }
        }
    }

    /** Each CELL that BURNS takes one of three ways: the digits of the number of the way, by three. */
    private void burnUnlike(int way) {
        int rest = way;
        for (int c = 0; c < SIDES; c++) {
            if (now.burns[c] != NONE) {
                trial.burns[c] = now.burns[c] + (rest % 3 - 1) * (now.burns[c] / 3);
                rest /= 3;
            }
        }
    }

    /** The part above (0) or below (1) the line of good over all in least terms. */
    private static long partOf(int good, int all, int part) {
        int a = all;
        int b = good;
        for (int step = 0; step < 64 && b != 0; step++) {
            int rest = a % b;
            a = b;
            b = rest;
        }
        if (a == 0) {
            return 0;
        }
        return part == 0 ? good / a : all / a;
    }

    /** The first place of the ROW that does not tell of a FALL to the SIDE; its size if all do. */
    private int firstNotSo(Row row, int side) {
        int struck = now.struckBy(side, now.minute);
        for (int i = 0; i < row.size(); i++) {
            if (!row.isSkipped(i) && row.at(i) != (struck >> i & 1)) {
                return i;
            }
        }
        return row.size();
    }

    private static int nextSeed(int z) {
        return z * 1103515245 + 12345;
    }

    private static int drawn(int z) {
        return (z & 0x7fffffff) / 65536;
    }

    // ---- the KINDS.

    /** One of the KIND with the FIGURE; null if there is no such. */
    private static Brick brickOf(int kind, int figure) {
        if (figure < 0 || figure > MOST_FIGURE) {
            return null;
        }
        switch (kind) {
            case 0: return new Brick(figure);
            case 1: return new Cut(figure);
            case 2: return new Prop(figure);
            case 3: return new Green(figure);
            case 4: return new Crushed(figure);
            case 5: return new Frosted(figure);
            case 6: return new Oiled(figure);
            case 7: return new Wedge(figure);
            default: return null;
        }
    }

    private static class Brick {
        final int figure;

        Brick(int figure) {
            this.figure = figure;
        }

        int kind() {
            return 0;
        }

        int bears() {
            return BRICK_BEARS;
        }

        int burns() {
            return NONE;
        }

        int price() {
            return 1;
        }

        /** Throws the FAILURE, if there is one: toss() tells them apart by their classes. */
        void fail() {
            if (figure != 0) {
                throw new IllegalArgumentException("a BRICK fails");
            }
        }
    }

    private static final class Cut extends Brick {
        Cut(int figure) {
            super(figure);
        }

        int kind() {
            return CUT;
        }

        int bears() {
            return 0;
        }

        int price() {
            return super.price() + 4;
        }

        void fail() {
        }
    }

    private static class Prop extends Brick {
        Prop(int figure) {
            super(figure);
        }

        int kind() {
            return 2;
        }

        int bears() {
            return figure;
        }

        int burns() {
            return 4 + 2 * figure;
        }

        int price() {
            return super.price() + figure + 1;
        }

        void fail() {
            if (figure != 0) {
                throw new IllegalStateException("a PROP fails");
            }
        }
    }

    private static final class Green extends Prop {
        Green(int figure) {
            super(figure);
        }

        int kind() {
            return 3;
        }

        int bears() {
            return super.bears() + 2;
        }

        int burns() {
            return super.burns() * 2;
        }

        int price() {
            return super.price() - 1;
        }
    }

    private static final class Crushed extends Brick {
        Crushed(int figure) {
            super(figure);
        }

        int kind() {
            return 4;
        }

        int bears() {
            return super.bears() / 2;
        }

        int price() {
            return super.price() * 2;
        }
    }

    private static final class Frosted extends Brick {
        Frosted(int figure) {
            super(figure);
        }

        int kind() {
            return 5;
        }

        int bears() {
            return super.bears() - figure / 3;
        }

        int price() {
            return super.price() + 5;
        }
    }

    private static final class Oiled extends Prop {
        Oiled(int figure) {
            super(figure);
        }

        int kind() {
            return 6;
        }

        int burns() {
            return super.burns() / 2;
        }

        int price() {
            return super.price() * 2;
        }

        void fail() {
            if (figure != 0) {
                throw new UnsupportedOperationException("an OILED PROP fails");
            }
        }
    }

    private static final class Wedge extends Brick {
        Wedge(int figure) {
            super(figure);
        }

        int kind() {
            return 7;
        }

        int bears() {
            return super.bears() + 2;
        }

        int price() {
            return super.price() + 8 + figure;
        }
    }

    /** What a SHELF can hold beside a CELL's KIND. */
    private static final class Row {
        final int sort;
        final int[] elements;

        Row(int sort, int[] elements) {
            this.sort = sort;
            this.elements = elements;
        }

        int size() {
            return elements.length;
        }

        boolean has(int i, int n) {
            return i >= 0 && n >= 0 && i <= elements.length && n <= elements.length - i;
        }

        /** 0, no sign of any text, where there is no such place. */
        int at(int i) {
            return has(i, 1) ? elements[i] : 0;
        }

        boolean gets(int i, int v) {
            if (!has(i, 1)) {
                return false;
            }
            elements[i] = sort == BYTES ? (byte) v : sort == SHORTS ? (short) v : v;
            return true;
        }

        /** Whether the least number of the SORT stands there. */
        boolean isSkipped(int i) {
            return sort >= BYTES && sort <= INTS && at(i) == LEAST_OF_SORT[sort];
        }

        boolean isDigit(int i) {
            return at(i) >= '0' && at(i) <= '9';
        }

        int number(int i, int digits) {
            int number = 0;
            for (int k = 0; k < digits; k++) {
                number = number * 10 + at(i + k) - '0';
            }
            return number;
        }
    }

    /** All that THE IMAGE keeps: the chimney, its FIRE, the HOUSES. */
    private static final class Town {
        final Brick[] foot = new Brick[SIDES];
        // As the CELLS tell them; a trial may BURN unlike its CELLS.
        final int[] bears = new int[SIDES];
        final int[] burns = new int[SIDES];
        final int[] told = new int[TOLD];
        final int[] houseSide = new int[MOST_HOUSES];
        final int[] houseFar = new int[MOST_HOUSES];
        int houses;
        boolean lit;
        int minute;
        int fallenTo;

        Town() {
            Brick brick = new Brick(0);
            for (int c = 0; c < SIDES; c++) {
                foot[c] = brick;
                bears[c] = BRICK_BEARS;
                burns[c] = NONE;
            }
            told[WEIGHT] = 150;
            told[HEIGHT] = 140;
            fallenTo = NONE;
        }

        void takeFrom(Town other) {
            for (int c = 0; c < SIDES; c++) {
                foot[c] = other.foot[c];
                bears[c] = other.bears[c];
                burns[c] = other.burns[c];
            }
            for (int what = 0; what < TOLD; what++) {
                told[what] = other.told[what];
            }
            for (int h = 0; h < MOST_HOUSES; h++) {
                houseSide[h] = other.houseSide[h];
                houseFar[h] = other.houseFar[h];
            }
            houses = other.houses;
            lit = other.lit;
            minute = other.minute;
            fallenTo = other.fallenTo;
        }

        boolean isDown() {
            return fallenTo != NONE;
        }

        /** After a change: it is DOWN as soon as it FALLS. */
        void settle() {
            if (!isDown()) {
                fallenTo = fallSideAt(minute);
            }
        }

        void replace(int c, Brick one) {
            foot[c] = one;
            bears[c] = one.bears();
            burns[c] = one.burns();
        }

        boolean isTold(int what, int v) {
            if (!isAsTold(what, v)) {
                return false;
            }
            told[what] = v;
            return true;
        }

        boolean addHouse(int side, int far) {
            if (!isSide(side) || far < 0 || far > MOST_FAR || houses < 0 || houses >= MOST_HOUSES) {
                return false;
            }
            houseSide[houses] = side;
            houseFar[houses] = far;
            houses++;
            return true;
        }

        boolean kindle() {
            if (lit || isDown()) {
                return false;
            }
            lit = true;
            return true;
        }

        boolean passes(int n) {
            if (n < 1 || !lit || isDown() || minute + n > LAST_MINUTE) {
                return false;
            }
            for (int k = 0; k < n && !isDown(); k++) {
                minute++;
                fallenTo = fallSideAt(minute);
            }
            return true;
        }

        void renew() {
            Brick brick = new Brick(0);
            for (int c = 0; c < SIDES; c++) {
                replace(c, brick);
            }
            lit = false;
            minute = 0;
            fallenTo = NONE;
        }

        // -- how it stands at a MINUTE.

        private static int alike(int side, int other) {
            return AHEAD[side] * AHEAD[other] + ASIDE[side] * ASIDE[other];
        }

        int bearsAt(int c, int atMinute) {
            return burns[c] != NONE && atMinute >= burns[c] ? 0 : bears[c];
        }

        int pressOn(int side) {
            int pushed = alike(side, told[LEAN_SIDE]) * told[INCHES] + alike(side, told[WIND_SIDE]) * told[MILES];
            return told[WEIGHT] + pushed / 10;
        }

        int holdOn(int side, int atMinute) {
            int all = 0;
            for (int c = 0; c < SIDES; c++) {
                int alike = alike(side, c);
                if (alike > 0) {
                    all += bearsAt(c, atMinute) * alike;
                }
            }
            return all / 10;
        }

        int lackOn(int side, int atMinute) {
            return pressOn(side) - holdOn(side, atMinute);
        }

        /** NONE if it STANDS then. */
        int fallSideAt(int atMinute) {
            int found = NONE;
            int most = 0;
            for (int side = 0; side < SIDES; side++) {
                int lack = lackOn(side, atMinute);
                if (lack > most) {
                    most = lack;
                    found = side;
                }
            }
            return found;
        }

        int weakestSide() {
            int found = 0;
            int most = lackOn(0, minute);
            for (int side = 1; side < SIDES; side++) {
                int lack = lackOn(side, minute);
                if (lack > most) {
                    most = lack;
                    found = side;
                }
            }
            return found;
        }

        int greatestLack() {
            return lackOn(weakestSide(), minute);
        }

        int countBurning() {
            int many = 0;
            for (int c = 0; c < SIDES; c++) {
                many += burns[c] != NONE ? 1 : 0;
            }
            return many;
        }

        int countBearing(int atMinute) {
            int many = 0;
            for (int c = 0; c < SIDES; c++) {
                many += bearsAt(c, atMinute) > 0 ? 1 : 0;
            }
            return many;
        }

        int allBears() {
            int all = 0;
            for (int c = 0; c < SIDES; c++) {
                all += bearsAt(c, minute);
            }
            return all;
        }

        // -- what the FIRE will do.

        private boolean burnsOutAt(int atMinute) {
            for (int c = 0; c < SIDES; c++) {
                if (burns[c] == atMinute) {
                    return true;
                }
            }
            return false;
        }

        /** In how many MINUTES it FALLS (0 now), FIRE being lit; NONE if not in as many as most. */
        int fallAfter(int most) {
            for (int after = 0; after <= most; after++) {
                // Between two burnings-out nothing changes: only they need a look.
                boolean changes = after == 0 || burnsOutAt(minute + after);
                if (changes && fallSideAt(minute + after) != NONE) {
                    return after;
                }
            }
            return NONE;
        }

        /** In how many MINUTES it FALLS to the LANE; NONE if it does not, or elsewhere. */
        int fallToLaneAfter() {
            int after = fallAfter(AHEAD_MINUTES);
            return after != NONE && fallSideAt(minute + after) == told[LANE] ? after : NONE;
        }

        // -- what a FALL does to HOUSES.

        boolean breaksAt(int atMinute) {
            return atMinute >= 10 || told[MILES] >= 10;
        }

        /** Where the TOP lies in a FALL to the SIDE; NONE if it does not break. */
        int topSide(int side, int atMinute) {
            if (!breaksAt(atMinute)) {
                return NONE;
            }
            int upward = around(told[WIND_SIDE] - side);
            if (upward == 0) {
                return side;
            }
            return around(upward <= SIDES / 2 ? side + 1 : side - 1);
        }

        int topFar() {
            int top = told[HEIGHT] / 3;
            return told[HEIGHT] + top / 2;
        }

        int kickFar() {
            return told[HEIGHT] / 6;
        }

        int hitBy(int side, int atMinute) {
            int topSide = topSide(side, atMinute);
            int bits = 0;
            for (int h = 0; h < houses && h < MOST_HOUSES; h++) {
                boolean under = houseSide[h] == side && houseFar[h] <= told[HEIGHT];
                boolean underTop = houseSide[h] == topSide && Math.abs(houseFar[h] - topFar()) <= 10;
                if (under || underTop) {
                    bits |= 1 << h;
                }
            }
            return bits;
        }

        int kickedBy(int side) {
            int behind = around(side + SIDES / 2);
            int bits = 0;
            for (int h = 0; h < houses && h < MOST_HOUSES; h++) {
                if (houseSide[h] == behind && houseFar[h] <= kickFar()) {
                    bits |= 1 << h;
                }
            }
            return bits;
        }

        int struckBy(int side, int atMinute) {
            return hitBy(side, atMinute) | kickedBy(side);
        }
    }
}
