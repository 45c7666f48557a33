import java.lang.reflect.InvocationTargetException;
import java.lang.reflect.Method;
import java.lang.reflect.Modifier;
import java.util.HashMap;
import java.util.Map;
import java.util.Random;

/** Whole runs of 512 calls on one object, all calls among one another: every answer against the WholeModel. */
public final class WholeRunsTest {
    private static final Check CHECK = new Check("WholeRunsTest");
    private static final int RUNS = 300;
    private static final int CALLS = 512;
    private static final Map<String, Method> FACE = new HashMap<>();
    private static final Map<String, Integer> ASKED = new HashMap<>();

    private final LaidDownTheLane x = new LaidDownTheLane();
    private final WholeModel model = new WholeModel();
    private final Random random;
    private final int run;
    private int calls;

    private WholeRunsTest(int run) {
        this.run = run;
        random = new Random(run);
    }

    public static void main(String[] args) throws Exception {
        for (Method m : LaidDownTheLane.class.getDeclaredMethods()) {
            if (Modifier.isPublic(m.getModifiers())) {
                FACE.put(m.getName(), m);
            }
        }
        for (int run = 0; run < RUNS; run++) {
            WholeRunsTest test = new WholeRunsTest(run);
            while (test.calls < CALLS) {
                test.step();
            }
        }
        for (String name : FACE.keySet()) {
            CHECK.same(name + " was asked " + ASKED.get(name), ASKED.getOrDefault(name, 0) >= 50 ? 1 : 0, 1);
        }
        CHECK.end();
    }

    private void ask(String name, int... a) throws Exception {
        if (calls == CALLS) {
            return;
        }
        calls++;
        ASKED.merge(name, 1, Integer::sum);
        StringBuilder told = new StringBuilder("run " + run + " call " + calls + " " + name);
        Object[] numbers = new Object[a.length];
        for (int k = 0; k < a.length; k++) {
            numbers[k] = a[k];
            told.append(' ').append(a[k]);
        }
        long due = model.answer(name, a);
        CHECK.same(told.toString(), got(name, numbers), due);
    }

    private long got(String name, Object[] numbers) throws Exception {
        try {
            return ((Number) FACE.get(name).invoke(x, numbers)).longValue();
        } catch (InvocationTargetException e) {
            if (e.getCause().getClass() == IllegalArgumentException.class) {
                return WholeModel.IAE;
            }
            return e.getCause().getClass() == IllegalStateException.class ? WholeModel.ISE : Long.MIN_VALUE;
        }
    }

    /** Mostly in the range, now and then just beyond it or far off. */
    private int near(int least, int most) {
        int chance = random.nextInt(40);
        if (chance < 2) {
            return chance == 0 ? least - 1 : most + 1;
        }
        if (chance == 2 && random.nextBoolean()) {
            return random.nextBoolean() ? Integer.MIN_VALUE : Integer.MAX_VALUE;
        }
        return least + random.nextInt(most - least + 1);
    }

    private void step() throws Exception {
        if (model.down != Model.NONE && random.nextInt(5) == 0) {
            ask(random.nextBoolean() ? "restore" : "anew");
        }
        switch (random.nextInt(12)) {
            case 0: text(); break;
            case 1: again(); break;
            case 2: tell(); break;
            case 3: tellAlone(); break;
            case 4: standing(); break;
            case 5: fires(); break;
            case 6: houses(); break;
            case 7: fellRow(); break;
            case 8: judgeRow(); break;
            case 9: shelves(); break;
            case 10: rows(); break;
            default: image(); break;
        }
    }

    // ---- telling.

    private void text() throws Exception {
        StringBuilder s = new StringBuilder();
        for (int k = random.nextInt(6); k >= 0; k--) {
            s.append(statement()).append(';');
        }
        if (random.nextInt(6) == 0) {
            int place = random.nextInt(s.length());
            s.replace(place, place + random.nextInt(2), random.nextBoolean() ? "" : ";x0c".substring(random.nextInt(4)));
        }
        int d = random.nextInt(8);
        ask("row", d, 0, s.length());
        for (int i = 0; i < s.length(); i++) {
            ask("put", d, i, s.charAt(i) + 256 * random.nextInt(2));
        }
        ask("town", d);
    }

    private String statement() {
        int side = random.nextInt(random.nextInt(20) == 0 ? 100 : 12);
        switch (random.nextInt(12)) {
            case 0: return "l" + Lanes.two(side) + Lanes.two(random.nextInt(6));
            case 1: return "w" + Lanes.two(side) + Lanes.two(random.nextInt(22));
            case 2: return "g" + Lanes.three(random.nextInt(random.nextInt(4) == 0 ? 402 : 200));
            case 3: return "h" + Lanes.three(19 + random.nextInt(183));
            case 4: return "a" + Lanes.two(side);
            case 5: case 6: return "o" + Lanes.two(side) + Lanes.three(random.nextInt(242));
            case 7: return "f";
            case 8: return "n" + Lanes.two(random.nextInt(random.nextInt(3) == 0 ? 100 : 12));
            default: return "c" + Lanes.two(side) + random.nextInt(random.nextInt(20) == 0 ? 10 : 8) + random.nextInt(10);
        }
    }

    /** A new FOOT that stands lightly, with props in it. */
    private void again() throws Exception {
        ask("anew");
        ask("set", 4, random.nextInt(260));
        for (int k = random.nextInt(4); k > 0; k--) {
            int d = random.nextInt(8);
            ask("keep", d, 1, random.nextInt(8), random.nextInt(10));
            ask("lays", d, random.nextInt(12));
            ask("lays", d, random.nextInt(12));
        }
    }

    private void tell() throws Exception {
        int[] most = {11, 20, 11, 20, random.nextInt(401), 200, 11, 9};
        int what = near(0, 6);
        ask("set", what, near(what == 5 ? 20 : 0, most[what & 7]));
        ask("lays", near(0, 7), near(0, 11));
        if (random.nextInt(3) == 0) {
            ask("cuts", near(0, 11));
        }
    }

    private void tellAlone() throws Exception {
        switch (random.nextInt(4)) {
            case 0: ask("house", near(0, 11), near(0, 240)); break;
            case 1: ask("light"); break;
            case 2: ask("minutes", random.nextBoolean() ? near(1, 99) : near(1, 9)); break;
            default: ask("about", near(0, 5), near(0, 1)); break;
        }
    }

    // ---- asking.

    private void standing() throws Exception {
        ask("canCut");
        ask("weakest");
        ask("round");
        ask("moreOn");
        ask("wedge");
        ask("sits");
        ask("falls");
        ask(new String[] {"presses", "holds", "lacks"}[random.nextInt(3)], near(0, 11));
        // The Model looks through all orders: few CELLS.
        int set = random.nextInt(4096) & random.nextInt(4096);
        ask("order", Integer.bitCount(set) > 5 ? 511 : set, near(0, 4));
        if (random.nextInt(30) == 0) {
            ask("forLane");
        }
    }

    private void fires() throws Exception {
        ask("will", near(0, 1));
        ask("thick", near(0, 1));
        ask("winds", near(0, 1));
        ask("anyWind", near(0, 1));
        // Of 3 ways each: the Model looks at every MINUTE of all of them.
        if (model.m.burning() < 4 || model.m.burning() > 6) {
            ask("unlike", near(0, 1));
        }
        ask("days", near(1, 20), random.nextInt(), near(0, 1));
    }

    private void houses() throws Exception {
        ask("hits", near(0, 11), near(0, 3));
        ask("crowd", near(0, 11));
        ask("sendOut");
        ask("safest");
        ask("count", near(0, 7));
        ask("cell", near(0, 11), near(0, 3));
    }

    private void fellRow() throws Exception {
        int d = random.nextInt(8);
        int sort = random.nextInt(3);
        int size = random.nextInt(model.m.houses.size() + 2);
        int struck = model.m.struck(random.nextInt(12));
        ask("row", d, sort, size);
        for (int i = 0; i < size; i++) {
            int[] odd = {0, 1, 2, -128, -32768, Integer.MIN_VALUE};
            ask("put", d, i, random.nextInt(8) == 0 ? odd[random.nextInt(6)] : struck >> i & 1);
        }
        ask("fell", near(d, d));
        ask("forged", near(d, d));
    }

    /** By copies of what bears now: right as long as nothing burns out. */
    private void judgeRow() throws Exception {
        int d = random.nextInt(8);
        int sort = random.nextInt(3);
        int size = 1 + random.nextInt(80);
        ask("row", d, sort, size);
        ask("put", d, 0, model.m.bearing());
        for (int done = 1; done < size; done *= 2) {
            ask("copy", d, 0, d, done, Math.min(done, size - done));
        }
        for (int i = 1; i < size && i < 12; i++) {
            ask("put", d, i, random.nextInt(9) == 0 ? Integer.MIN_VALUE : model.m.at(model.m.minute + i).bearing());
        }
        ask("judge", near(d, d));
    }

    // ---- shelves and the image.

    private void shelves() throws Exception {
        ask("keep", near(0, 7), near(0, 1), near(0, 7), near(0, 9));
        ask("cost", near(0, 7));
        ask("toss", near(0, 7));
        ask("town", near(0, 7));
    }

    private void rows() throws Exception {
        ask("row", near(0, 7), near(0, 2), random.nextInt(3) == 0 ? near(0, 100) : near(0, 9));
        ask("put", near(0, 7), near(0, 9), random.nextInt());
        ask("copy", near(0, 7), near(0, 9), near(0, 7), near(0, 9), near(0, 9));
        ask("element", near(0, 7), near(0, 9));
    }

    private void image() throws Exception {
        ask(random.nextInt(3) == 0 ? "image" : random.nextInt(3) == 0 ? "restore" : "falls");
        ask("count", near(0, 7));
    }
}
