import java.util.Random;

/**
 * Any call with any numbers: nothing is thrown but by element(), a question or
 * a REFUSAL changes nothing, and the same calls give the same answers.
 */
public final class FuzzTest {
    private static final Check CHECK = new Check("FuzzTest");
    private static final int CALLS = 46 - 1;
    private static final int[] ODD = {Integer.MIN_VALUE, Integer.MIN_VALUE + 1, -1000000001, -129, -128, -14, -4, -2,
        -1, 0, 0, 1, 1, 2, 3, 5, 6, 7, 8, 9, 11, 12, 20, 21, 60, 99, 100, 101, 127, 150, 240, 241, 400, 999, 1000,
        4095, 4096, 65536, Integer.MAX_VALUE - 1, Integer.MAX_VALUE};
    private static final String LETTERS = "clwghaofn;0123456789";

    public static void main(String[] args) {
        for (int run = 0; run < 4000; run++) {
            longRun(run);
        }
        for (int run = 0; run < 6000; run++) {
            oneCall(run);
        }
        CHECK.end();
    }

    private static int odd(Random random) {
        return random.nextInt(3) == 0 ? ODD[random.nextInt(ODD.length)] : random.nextInt(13);
    }

    /** Two objects, the same 512 calls. */
    private static void longRun(int run) {
        LaidDownTheLane x = new LaidDownTheLane();
        LaidDownTheLane y = new LaidDownTheLane();
        Random random = new Random(run);
        long differ = 0;
        for (int k = 0; k < 512; k++) {
            int call = random.nextInt(CALLS);
            int[] a = {odd(random), odd(random), odd(random), odd(random), odd(random)};
            if (call == 41 && random.nextBoolean()) {
                a = new int[] {0, random.nextInt(8), LETTERS.charAt(random.nextInt(LETTERS.length())), 0, 0};
            }
            // The dear one: seldom.
            if (call != 17 || random.nextInt(40) == 0) {
                differ += call(x, call, a) == call(y, call, a) ? 0 : 1;
            }
        }
        CHECK.same("run " + run + ": the same calls differ", differ, 0);
    }

    /** One call in a chance town: what must not change stays. */
    private static void oneCall(int run) {
        Random random = new Random(1000000 + run);
        LaidDownTheLane x = new LaidDownTheLane();
        Lanes.tell(x, "g" + Lanes.three(random.nextInt(60) == 0 ? 360 : random.nextInt(300)) + ";a"
            + Lanes.two(random.nextInt(12)) + ";");
        for (int k = 0; k < 5; k++) {
            String c = "c" + Lanes.two(random.nextInt(12)) + random.nextInt(8) + random.nextInt(10) + ";";
            String o = "o" + Lanes.two(random.nextInt(12)) + Lanes.three(random.nextInt(241)) + ";";
            Lanes.tell(x, c);
            Lanes.tell(x, o);
        }
        Lanes.tell(x, random.nextBoolean() ? "f;n05;" : "w0505;");
        x.keep(7, 0, 0, 0);
        x.keep(0, 1, random.nextInt(8), random.nextInt(10));
        Lanes.fill(x, 1, random.nextInt(3), 1, 0, 12, random.nextInt(13));
        Lanes.fill(x, 2, 0, 'f', ';', 'c', '0', '1', '0', '0', random.nextInt(2) * 11 + '0');
        String before = look(x);
        int call = random.nextInt(CALLS);
        int[] a = {odd(random), odd(random), odd(random), odd(random), odd(random)};
        long answer = call(x, call, a);
        boolean asks = call >= 11 && call <= 35 || call == 38 || call >= 44 || call == 2 || call == 7;
        boolean refuses = answer <= -1 && answer >= -15 && answer != -4 || answer <= -1000;
        if (asks || refuses) {
            CHECK.same("run " + run + " call " + call + " changes " + before, look(x).equals(before) ? 1 : 0, 1);
        }
    }

    /** All that can be seen of an object without changing it. */
    private static String look(LaidDownTheLane x) {
        StringBuilder seen = new StringBuilder();
        for (int k = 0; k < 12; k++) {
            seen.append(x.cell(k, 0)).append(x.cell(k, 1)).append(' ').append(x.cell(k, 2)).append(' ')
                .append(x.presses(k)).append(' ').append(x.hits(k, 1)).append(x.count(k)).append(' ')
                .append(x.about(k, 0)).append(' ').append(x.about(k, 1)).append(' ');
        }
        for (int d = 0; d < 8; d++) {
            seen.append(x.cost(d)).append(x.toss(d));
            for (int i = 0; i < 9; i++) {
                seen.append(' ').append(Lanes.element(x, d, i));
            }
        }
        return seen.append(x.falls()).toString();
    }

    private static long call(LaidDownTheLane x, int call, int[] a) {
        if (call < 11) {
            return told(x, call, a);
        }
        if (call < 21) {
            return stands(x, call, a);
        }
        return call < 36 ? firesAndHouses(x, call, a) : rest(x, call, a);
    }

    private static long told(LaidDownTheLane x, int call, int[] a) {
        switch (call) {
            case 1: return x.town(a[0]);
            case 2: return x.cell(a[0], a[1]);
            case 3: return x.cuts(a[0]);
            case 4: return x.lays(a[0], a[1]);
            case 5: return x.set(a[0], a[1]);
            case 6: return x.house(a[0], a[1]);
            case 7: return x.about(a[0], a[1]);
            case 8: return x.light();
            case 9: return x.minutes(a[0]);
            default: return x.anew();
        }
    }

    private static long stands(LaidDownTheLane x, int call, int[] a) {
        switch (call) {
            case 11: return x.presses(a[0]);
            case 12: return x.holds(a[0]);
            case 13: return x.lacks(a[0]);
            case 14: return x.falls();
            case 15: return x.canCut();
            case 16: return x.weakest();
            case 17: return x.forLane();
            case 18: return x.order(a[0] * a[1], a[2]);
            case 19: return x.round();
            default: return x.moreOn();
        }
    }

    private static long firesAndHouses(LaidDownTheLane x, int call, int[] a) {
        switch (call) {
            case 21: return x.will(a[0]);
            case 22: return x.thick(a[0]);
            case 23: return x.winds(a[0]);
            case 24: return x.anyWind(a[0]);
            case 25: return x.unlike(a[0]);
            case 26: return x.wedge();
            case 27: return x.sits();
            case 28: return x.hits(a[0], a[1]);
            case 29: return x.sendOut();
            case 30: return x.crowd(a[0]);
            case 31: return x.safest();
            case 32: return x.fell(a[0]);
            case 33: return x.forged(a[0]);
            case 34: return x.judge(a[0]);
            default: return x.days(a[0], a[1], a[2]);
        }
    }

    private static long rest(LaidDownTheLane x, int call, int[] a) {
        switch (call) {
            case 36: return x.image();
            case 37: return x.restore();
            case 38: return x.count(a[0]);
            case 39: return x.keep(a[0], a[1], a[2], a[3]);
            case 40: return x.row(a[0], a[1], a[2]);
            case 41: return x.put(a[0], a[1], a[2]);
            case 42: return Lanes.element(x, a[0], a[1]);
            case 43: return x.copy(a[0], a[1], a[2], a[3], a[4]);
            default: return a[0] % 2 == 0 ? x.cost(a[1]) : x.toss(a[1]);
        }
    }
}
