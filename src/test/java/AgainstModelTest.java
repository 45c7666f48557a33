import java.util.ArrayList;
import java.util.Collections;
import java.util.List;
import java.util.Random;

/**
 * Promises 2 to 36 and 39: every answer against the slow Model, in many towns,
 * told by texts and by calls, the questions in any order.
 */
public final class AgainstModelTest {
    private static final Check CHECK = new Check("AgainstModelTest");
    private static final int QUESTIONS = 25;
    private static final int FOR_LANE = 24;

    private final Random random;
    private final LaidDownTheLane x = new LaidDownTheLane();
    private final Model m = new Model();
    private final StringBuilder town;
    private boolean fellEarly;

    private AgainstModelTest(int run) {
        random = new Random(run);
        town = new StringBuilder("town " + run + ": ");
    }

    public static void main(String[] args) {
        int stood = 0;
        for (int run = 0; run < 1200; run++) {
            AgainstModelTest test = new AgainstModelTest(run);
            test.build();
            for (int round = 0; round < 3 && test.stands(); round++) {
                stood++;
                test.ask(run % 20 == 0);
                test.changeOne();
            }
        }
        CHECK.same("enough towns stood", stood > 900 ? 1 : 0, 1);
        CHECK.end();
    }

    private boolean stands() {
        if (fellEarly) {
            return false;
        }
        CHECK.same(town + "down", x.count(3), m.falls() == Model.NONE ? 0 : 1);
        CHECK.same(town + "falls", x.falls(), m.falls());
        return x.count(3) == 0;
    }

    // ---- telling: a chance whether by a text or by calls.

    private void build() {
        m.weight = 0;
        tell(4, 0);
        int kindOfTown = random.nextInt(3);
        for (int k = random.nextInt(9); k > 0; k--) {
            int[] burning = {2, 3, 6, 1};
            cell(random.nextInt(12), kindOfTown == 0 ? burning[random.nextInt(4)] : random.nextInt(8));
        }
        for (int k = random.nextInt(7); k > 0; k--) {
            house(random.nextInt(12), random.nextInt(3) == 0 ? random.nextInt(40) : random.nextInt(241));
        }
        if (random.nextInt(3) == 0) {
            fire(random.nextInt(30));
        }
        m.height = 20 + random.nextInt(181);
        tell(5, m.height);
        pair(0, m.leanSide = random.nextInt(12), 0);
        pair(2, m.windSide = random.nextInt(12), 0);
        int spare = Math.max(0, -m.lacks(m.weakest()));
        m.weight = Math.min(400, kindOfTown == 2 ? random.nextInt(260) : spare - random.nextInt(spare + 1) / 3);
        tell(4, m.weight);
        pair(0, m.leanSide, m.inches = random.nextInt(6));
        pair(2, m.windSide, m.miles = random.nextInt(21) / (1 + random.nextInt(4)));
        m.lane = random.nextInt(3) == 0 ? random.nextInt(12) : m.willSide() == Model.NONE ? m.weakest() : m.willSide();
        if (x.count(3) == 0) {
            tell(6, m.lane);
        }
    }

    private void changeOne() {
        switch (random.nextInt(6)) {
            case 0: cell(random.nextInt(12), random.nextInt(8)); break;
            case 1: cell(random.nextInt(12), 1); break;
            case 2: pair(2, m.windSide = random.nextInt(12), m.miles = random.nextInt(21)); break;
            case 3: tell(4, m.weight = random.nextInt(m.weight + 20)); break;
            case 4: tell(5, m.height = 20 + random.nextInt(181)); break;
            default: tell(6, m.lane = random.nextInt(12)); break;
        }
    }

    private void text(String text) {
        town.append(text);
        CHECK.same(town + "told", Lanes.tell(x, text) > 0 ? 1 : 0, 1);
    }

    private void cell(int c, int kind) {
        int was = m.kind[c];
        m.kind[c] = kind;
        m.figure[c] = random.nextInt(10);
        boolean byText = random.nextBoolean();
        if (!byText && kind == 1 && random.nextBoolean()) {
            m.figure[c] = 0;
            town.append("cuts ").append(c).append("; ");
            CHECK.same(town + "was", x.cuts(c), was);
        } else if (byText) {
            text("c" + Lanes.two(c) + kind + m.figure[c] + ";");
        } else {
            town.append("lays ").append(c).append(' ').append(kind).append(m.figure[c]).append("; ");
            x.keep(6, 1, kind, m.figure[c]);
            CHECK.same(town + "was", x.lays(6, c), was);
        }
    }

    private void house(int side, int far) {
        m.houses.add(new int[] {side, far});
        if (random.nextBoolean()) {
            text("o" + Lanes.two(side) + Lanes.three(far) + ";");
        } else {
            town.append("house ").append(side).append(' ').append(far).append("; ");
            CHECK.same(town + "number", x.house(side, far), m.houses.size() - 1);
        }
    }

    private void fire(int minutes) {
        m.lit = true;
        m.minute = minutes;
        boolean byText = random.nextBoolean();
        if (byText) {
            text("f;");
        } else {
            town.append("light; ");
            CHECK.same(town + "burning", x.light(), m.burning());
        }
        if (minutes > 0 && byText) {
            text("n" + Lanes.two(minutes) + ";");
        } else if (minutes > 0) {
            town.append("minutes ").append(minutes).append("; ");
            CHECK.same(town + "minute", x.minutes(minutes), minutes);
        }
    }

    private void tell(int what, int v) {
        if (random.nextBoolean()) {
            text(what == 6 ? "a" + Lanes.two(v) + ";" : (what == 4 ? "g" : "h") + Lanes.three(v) + ";");
        } else {
            town.append("set ").append(what).append(' ').append(v).append("; ");
            x.set(what, v);
        }
    }

    /** DOWN ahead of the last that the Model was told, they can't be compared any more. */
    private void pair(int what, int side, int much) {
        if (x.count(3) == 1) {
            fellEarly = true;
            return;
        }
        text((what == 0 ? "l" : "w") + Lanes.two(side) + Lanes.two(much) + ";");
        if (x.count(3) == 0 && random.nextBoolean()) {
            CHECK.same(town + "side as told", x.set(what, side), side);
            CHECK.same(town + "much as told", x.set(what + 1, much), much);
        }
    }

    // ---- asking.

    private void ask(boolean dear) {
        List<Integer> questions = new ArrayList<>();
        for (int k = 0; k < QUESTIONS; k++) {
            questions.add(k);
        }
        Collections.shuffle(questions, random);
        for (int question : questions) {
            if (question < 12) {
                askSide(question);
            } else if (question < 19) {
                askStanding(question);
            } else if (question != FOR_LANE || dear) {
                askMore(question);
            }
        }
    }

    private void askSide(int s) {
        CHECK.same(town + "presses " + s, x.presses(s), m.presses(s));
        CHECK.same(town + "holds " + s, x.holds(s), m.holds(s));
        CHECK.same(town + "lacks " + s, x.lacks(s), m.lacks(s));
        CHECK.same(town + "kind " + s, x.cell(s, 0), m.kind[s]);
        CHECK.same(town + "figure " + s, x.cell(s, 1), m.figure[s]);
        CHECK.same(town + "bears " + s, x.cell(s, 2), m.bears(s));
        CHECK.same(town + "burns " + s, x.cell(s, 3), m.burns(s));
        CHECK.same(town + "hits " + s, x.hits(s, 0), m.hits(s));
        CHECK.same(town + "top side " + s, x.hits(s, 1), m.topSide(s));
        CHECK.same(town + "top far " + s, x.hits(s, 2), m.topFar());
        CHECK.same(town + "kicked " + s, x.hits(s, 3), m.kicked(s));
        CHECK.same(town + "crowd " + s, x.crowd(s), m.crowd(s));
    }

    private void askStanding(int question) {
        switch (question) {
            case 12: CHECK.same(town + "canCut", x.canCut(), m.canCut()); break;
            case 13: CHECK.same(town + "weakest", x.weakest(), m.weakest()); break;
            case 14: CHECK.same(town + "round", x.round(), m.round()); break;
            case 15: CHECK.same(town + "moreOn", x.moreOn(), m.moreOn()); break;
            case 16: CHECK.same(town + "wedge", x.wedge(), m.wedge()); break;
            case 17: CHECK.same(town + "sits", x.sits(), m.lit ? -3 : m.sits()); break;
            default: askOrder(); break;
        }
    }

    private void askMore(int question) {
        int part = random.nextInt(2);
        switch (question) {
            case 19:
                CHECK.same(town + "will", x.will(0), m.will());
                CHECK.same(town + "will side", x.will(1), m.willSide());
                break;
            case 20: CHECK.same(town + "thick " + part, x.thick(part), m.thick(part)); break;
            case 21: CHECK.same(town + "winds " + part, x.winds(part), m.winds(part)); break;
            case 22: askOdds(part); break;
            case 23:
                askDays(part);
                askRows();
                askCounts();
                break;
            default: CHECK.same(town + "forLane", x.forLane(), m.forLane()); break;
        }
    }

    private void askOrder() {
        for (int k = 0; k < 3; k++) {
            int set = 1 + random.nextInt(4095);
            while (Integer.bitCount(set) > 5) {
                set &= set - 1;
            }
            List<Integer> order = m.order(set, 0);
            for (int i = 0; i <= Integer.bitCount(set); i++) {
                int due = order == null || i >= order.size() ? Model.NONE : order.get(i);
                CHECK.same(town + "order " + set + " " + i, x.order(set, i), due);
            }
        }
    }

    private void askOdds(int part) {
        CHECK.same(town + "anyWind " + part, x.anyWind(part), m.anyWind(part));
        if (m.burning() > 6) {
            CHECK.same(town + "unlike " + part, x.unlike(part), -1000000003);
        } else if (m.burning() <= 4) {
            CHECK.same(town + "unlike " + part, x.unlike(part), m.unlike(part));
        }
    }

    private void askDays(int what) {
        int n = 1 + random.nextInt(20);
        int z = random.nextInt();
        CHECK.same(town + "days " + n + " " + z + " " + what, x.days(n, z, what), m.days(n, z, what));
        CHECK.same(town + "sendOut", x.sendOut(), m.sendOut());
        CHECK.same(town + "safest", x.safest(), m.safest());
    }

    private void askCounts() {
        int all = 0;
        for (int c = 0; c < 12; c++) {
            all += m.bears(c);
        }
        int[] due = {m.houses.size(), m.minute, m.lit ? 1 : 0, 0, m.bearing(), all, m.lane, m.height};
        for (int what = 0; what < 8; what++) {
            CHECK.same(town + "count " + what, x.count(what), due[what]);
        }
        for (int h = 0; h < m.houses.size(); h++) {
            CHECK.same(town + "side of " + h, x.about(h, 0), m.houses.get(h)[0]);
            CHECK.same(town + "far of " + h, x.about(h, 1), m.houses.get(h)[1]);
        }
    }

    private void askRows() {
        int sort = random.nextInt(3);
        int skip = sort == 0 ? -128 : sort == 1 ? -32768 : Integer.MIN_VALUE;
        int[] struck = new int[random.nextInt(m.houses.size() + 1)];
        int side = random.nextInt(12);
        for (int i = 0; i < struck.length; i++) {
            int chance = random.nextInt(12);
            int is = m.struck(side) >> i & 1;
            struck[i] = chance == 0 ? skip : chance == 1 ? 1 - is : chance == 2 ? 2 : is;
        }
        Lanes.fill(x, sort, sort, struck);
        CHECK.same(town + "fell", x.fell(sort), m.fell(struck, struck.length - 1, skip));
        CHECK.same(town + "forged", x.forged(sort), m.forged(struck, skip));
        int[] looked = new int[random.nextInt(random.nextBoolean() ? 101 : 64)];
        boolean honest = random.nextBoolean();
        int silentFrom = random.nextInt(130);
        for (int i = 0; i < looked.length; i++) {
            int chance = honest ? 20 : random.nextInt(90);
            boolean silent = chance == 3 || i >= silentFrom;
            looked[i] = silent ? skip : chance < 3 ? chance : m.at(m.minute + i).bearing();
        }
        Lanes.fill(x, sort, sort, looked);
        CHECK.same(town + "judge", x.judge(sort), m.judge(looked, skip));
    }
}
