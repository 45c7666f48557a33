import java.util.List;
import java.util.Random;

/** Promises 3, 8 and 12 to 36, 39: every answer against the slow Model, in many towns. */
public final class AgainstModelTest {
    private static final Check CHECK = new Check("AgainstModelTest");

    public static void main(String[] args) {
        int stood = 0;
        for (int run = 0; run < 700; run++) {
            Random random = new Random(run);
            Model m = new Model();
            LaidDownTheLane x = new LaidDownTheLane();
            String text = build(m, x, random);
            if (x.count(3) == 0) {
                stood++;
                ask("town " + run + " " + text, x, m, random, run % 25 == 0);
            }
        }
        CHECK.same("enough towns stood", stood > 300 ? 1 : 0, 1);
        CHECK.end();
    }

    /** Tells a chance town; the fire goes on for some MINUTES in a part of them. */
    private static String build(Model m, LaidDownTheLane x, Random random) {
        StringBuilder said = new StringBuilder();
        int others = random.nextInt(8);
        for (int k = 0; k < others; k++) {
            int c = random.nextInt(12);
            int kind = random.nextInt(8);
            m.kind[c] = kind;
            m.figure[c] = random.nextInt(10);
            said.append(step(x, "c" + Lanes.two(c) + kind + m.figure[c] + ";"));
        }
        for (int k = random.nextInt(7); k > 0; k--) {
            int[] house = {random.nextInt(12), random.nextInt(3) == 0 ? random.nextInt(40) : random.nextInt(241)};
            m.houses.add(house);
            said.append(step(x, "o" + Lanes.two(house[0]) + Lanes.three(house[1]) + ";"));
        }
        m.leanSide = random.nextInt(12);
        m.inches = random.nextInt(7);
        m.windSide = random.nextInt(12);
        m.miles = random.nextInt(21);
        m.weight = random.nextInt(260);
        m.height = 20 + random.nextInt(181);
        m.lane = random.nextInt(3) == 0 ? random.nextInt(12) : m.weakest();
        said.append(step(x, "h" + Lanes.three(m.height) + ";a" + Lanes.two(m.lane) + ";g000;"));
        if (random.nextBoolean()) {
            m.lit = true;
            m.minute = random.nextInt(30);
            said.append(step(x, "f;" + (m.minute == 0 ? "" : "n" + Lanes.two(m.minute) + ";")));
        }
        said.append(step(x, "g" + Lanes.three(m.weight) + ";"));
        said.append(step(x, "l" + Lanes.two(m.leanSide) + Lanes.two(m.inches) + ";"));
        said.append(step(x, "w" + Lanes.two(m.windSide) + Lanes.two(m.miles) + ";"));
        return said.toString();
    }

    private static String step(LaidDownTheLane x, String text) {
        Lanes.tell(x, text);
        return text;
    }

    private static void ask(String town, LaidDownTheLane x, Model m, Random random, boolean dear) {
        askNow(town, x, m);
        askSets(town, x, m, random, dear);
        askFires(town, x, m, random);
        askHouses(town, x, m, random);
        askRows(town, x, m, random);
    }

    private static void askNow(String town, LaidDownTheLane x, Model m) {
        for (int s = 0; s < 12; s++) {
            CHECK.same(town + " presses " + s, x.presses(s), m.presses(s));
            CHECK.same(town + " holds " + s, x.holds(s), m.holds(s));
            CHECK.same(town + " lacks " + s, x.lacks(s), m.lacks(s));
            CHECK.same(town + " kind " + s, x.cell(s, 0), m.kind[s]);
            CHECK.same(town + " figure " + s, x.cell(s, 1), m.figure[s]);
            CHECK.same(town + " bears " + s, x.cell(s, 2), m.bears(s));
            CHECK.same(town + " burns " + s, x.cell(s, 3), m.burns(s));
        }
        CHECK.same(town + " falls", x.falls(), m.falls());
        CHECK.same(town + " minute", x.count(1), m.minute);
        CHECK.same(town + " lit", x.count(2), m.lit ? 1 : 0);
        CHECK.same(town + " bearing", x.count(4), m.bearing());
        int all = 0;
        for (int c = 0; c < 12; c++) {
            all += m.bears(c);
        }
        CHECK.same(town + " all bears", x.count(5), all);
        CHECK.same(town + " lane", x.count(6), m.lane);
        CHECK.same(town + " height", x.count(7), m.height);
    }

    private static void askSets(String town, LaidDownTheLane x, Model m, Random random, boolean dear) {
        CHECK.same(town + " canCut", x.canCut(), m.canCut());
        CHECK.same(town + " weakest", x.weakest(), m.weakest());
        if (dear) {
            CHECK.same(town + " forLane", x.forLane(), m.forLane());
        }
        CHECK.same(town + " round", x.round(), m.round());
        CHECK.same(town + " moreOn", x.moreOn(), m.moreOn());
        for (int k = 0; k < 4; k++) {
            int set = 1 + random.nextInt(4095);
            while (Integer.bitCount(set) > 5) {
                set &= set - 1;
            }
            List<Integer> order = m.order(set, 0);
            for (int i = 0; i <= Integer.bitCount(set); i++) {
                int due = order == null || i >= order.size() ? Model.NONE : order.get(i);
                CHECK.same(town + " order " + set + " " + i, x.order(set, i), due);
            }
        }
    }

    private static void askFires(String town, LaidDownTheLane x, Model m, Random random) {
        CHECK.same(town + " will", x.will(0), m.will());
        CHECK.same(town + " will side", x.will(1), m.willSide());
        for (int k = 0; k < 2; k++) {
            CHECK.same(town + " thick " + k, x.thick(k), m.thick(k));
            CHECK.same(town + " winds " + k, x.winds(k), m.winds(k));
            CHECK.same(town + " anyWind " + k, x.anyWind(k), m.anyWind(k));
            if (m.burning() <= 3) {
                CHECK.same(town + " unlike " + k, x.unlike(k), m.unlike(k));
            }
            int n = 1 + random.nextInt(20);
            int z = random.nextInt();
            CHECK.same(town + " days " + n + " " + z + " " + k, x.days(n, z, k), m.days(n, z, k));
        }
        CHECK.same(town + " wedge", x.wedge(), m.wedge());
        CHECK.same(town + " sits", x.sits(), m.lit ? -3 : m.sits());
    }

    private static void askHouses(String town, LaidDownTheLane x, Model m, Random random) {
        CHECK.same(town + " houses", x.count(0), m.houses.size());
        for (int h = 0; h < m.houses.size(); h++) {
            CHECK.same(town + " side of " + h, x.about(h, 0), m.houses.get(h)[0]);
            CHECK.same(town + " far of " + h, x.about(h, 1), m.houses.get(h)[1]);
        }
        for (int s = 0; s < 12; s++) {
            CHECK.same(town + " hits " + s, x.hits(s, 0), m.hits(s));
            CHECK.same(town + " top side " + s, x.hits(s, 1), m.topSide(s));
            CHECK.same(town + " top far " + s, x.hits(s, 2), m.topFar());
            CHECK.same(town + " kicked " + s, x.hits(s, 3), m.kicked(s));
            CHECK.same(town + " crowd " + s, x.crowd(s), m.crowd(s));
        }
        CHECK.same(town + " sendOut", x.sendOut(), m.sendOut());
        CHECK.same(town + " safest", x.safest(), m.safest());
    }

    private static void askRows(String town, LaidDownTheLane x, Model m, Random random) {
        int[] skips = {-128, -32768, Integer.MIN_VALUE};
        for (int sort = 0; sort < 3; sort++) {
            int[] bricks = new int[random.nextInt(m.houses.size() + 1)];
            int side = random.nextInt(12);
            for (int i = 0; i < bricks.length; i++) {
                int chance = random.nextInt(12);
                int is = m.struck(side) >> i & 1;
                bricks[i] = chance == 0 ? skips[sort] : chance == 1 ? 1 - is : chance == 2 ? 2 : is;
            }
            Lanes.fill(x, sort, sort, bricks);
            CHECK.same(town + " fell", x.fell(sort), m.fell(bricks, bricks.length - 1, skips[sort]));
            CHECK.same(town + " forged", x.forged(sort), m.forged(bricks, skips[sort]));
            int[] looked = new int[random.nextInt(101)];
            boolean honest = random.nextBoolean();
            for (int i = 0; i < looked.length; i++) {
                int chance = honest ? 20 : random.nextInt(90);
                looked[i] = chance < 3 ? chance : chance == 3 ? skips[sort] : m.at(m.minute + i).bearing();
            }
            Lanes.fill(x, sort, sort, looked);
            CHECK.same(town + " judge", x.judge(sort), m.judge(looked, skips[sort]));
        }
    }
}
