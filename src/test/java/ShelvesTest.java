/** Promises 40 to 46: shelves. */
public final class ShelvesTest {
    private static final Check CHECK = new Check("ShelvesTest");
    private static final int[] FAR = {-1, 8, Lanes.MIN, Lanes.MAX};

    public static void main(String[] args) {
        keep();
        keepRefuses();
        row();
        put();
        element();
        copy();
        copyOntoItself();
        copyRefuses();
        cost();
        toss();
        CHECK.end();
    }

    private static void keep() {
        LaidDownTheLane x = Lanes.of("g000;");
        for (int k = 0; k < 8; k++) {
            CHECK.same("40 a kind", x.keep(k, 1, k, 9 - k), 0);
        }
        for (int k = 0; k < 8; k++) {
            x.lays(k, 3);
            CHECK.same("40 its kind", x.cell(3, 0), k);
            CHECK.same("40 its figure", x.cell(3, 1), 9 - k);
        }
        CHECK.same("40 nothing", x.keep(0, 0, 99, -99), 0);
        CHECK.same("40 it holds nothing", x.cost(0), -11);
        x.row(0, 0, 3);
        CHECK.same("40 in place of a row", x.keep(0, 1, 2, 2), 0);
        CHECK.same("40 no row any more", x.put(0, 0, 0), -12);
        x.row(0, 0, 3);
        CHECK.same("40 nothing in place of a row", x.keep(0, 0, 0, 0), 0);
        CHECK.same("40 holds nothing", x.put(0, 0, 0), -11);
    }

    private static void keepRefuses() {
        LaidDownTheLane x = new LaidDownTheLane();
        x.keep(0, 1, 2, 4);
        for (int bad : FAR) {
            CHECK.same("40 no shelf " + bad, x.keep(bad, 0, 0, 0), -1);
            CHECK.same("40 no what " + bad, x.keep(0, bad == 8 ? 2 : bad, 0, 0), -1);
            CHECK.same("40 no kind " + bad, x.keep(0, 1, bad, 0), -1);
            CHECK.same("40 no figure " + bad, x.keep(0, 1, 0, bad == 8 ? 10 : bad), -1);
        }
        CHECK.same("40 nothing changes", x.cost(0), 6);
    }

    private static void row() {
        LaidDownTheLane x = new LaidDownTheLane();
        for (int sort = 0; sort < 3; sort++) {
            CHECK.same("41 a row", x.row(sort, sort, 100), 0);
            CHECK.same("41 0 at first", Lanes.element(x, sort, 0) + Lanes.element(x, sort, 99), 0);
            CHECK.same("41 no more places", x.put(sort, 100, 0), -13);
        }
        x.put(2, 99, 7);
        CHECK.same("41 a new one", x.row(2, 2, 100), 0);
        CHECK.same("41 0 again", Lanes.element(x, 2, 99), 0);
        CHECK.same("41 none at all", x.row(2, 2, 0), 0);
        CHECK.same("41 has no place", Lanes.element(x, 2, 0), -102);
        x.keep(3, 1, 0, 0);
        CHECK.same("41 in place of a kind", x.row(3, 0, 1), 0);
        CHECK.same("41 no kind any more", x.cost(3), -12);
        for (int bad : FAR) {
            CHECK.same("41 no shelf " + bad, x.row(bad, 0, 1), -1);
            CHECK.same("41 no sort " + bad, x.row(3, bad == 8 ? 3 : bad, 1), -1);
        }
        CHECK.same("41 too many", x.row(3, 0, 101), -1);
        CHECK.same("41 far too many", x.row(3, 0, Lanes.MAX), -1);
        CHECK.same("41 below 0", x.row(3, 0, -1), -14);
        CHECK.same("41 far below 0", x.row(3, 0, Lanes.MIN), -14);
        CHECK.same("41 no shelf ahead of below 0", x.row(8, 0, -1), -1);
        CHECK.same("41 no sort ahead of below 0", x.row(0, 3, -1), -1);
        CHECK.same("41 the row stays", x.put(3, 0, 1), 0);
    }

    private static void put() {
        int[] values = {0, 127, 128, 255, 256, -129, 32768, 65536, -32769, 70000, Lanes.MIN, Lanes.MAX};
        LaidDownTheLane x = new LaidDownTheLane();
        for (int sort = 0; sort < 3; sort++) {
            x.row(0, sort, 2);
            for (int v : values) {
                int due = sort == 0 ? (v << 24) >> 24 : sort == 1 ? (v << 16) >> 16 : v;
                CHECK.same("42 put", x.put(0, 1, v), 0);
                CHECK.same("42 lowest bits of " + v, Lanes.element(x, 0, 1), due);
                CHECK.same("42 the other stays", Lanes.element(x, 0, 0), 0);
            }
        }
        for (int bad : FAR) {
            CHECK.same("42 no shelf " + bad, x.put(bad, 0, 0), -1);
            CHECK.same("42 no place " + bad, x.put(0, bad == 8 ? 2 : bad, 0), -13);
        }
        CHECK.same("42 nothing", x.put(1, -1, 0), -11);
        x.keep(1, 1, 0, 0);
        CHECK.same("42 a kind", x.put(1, -1, 0), -12);
    }

    private static void element() {
        LaidDownTheLane x = new LaidDownTheLane();
        Lanes.fill(x, 0, Lanes.INTS, -5, Lanes.MAX);
        CHECK.same("43 the first", Lanes.element(x, 0, 0), -5);
        CHECK.same("43 the last", Lanes.element(x, 0, 1), Lanes.MAX);
        for (int bad : FAR) {
            CHECK.same("43 no shelf " + bad, Lanes.element(x, bad, 0), -101);
            CHECK.same("43 no place " + bad, Lanes.element(x, 0, bad == 8 ? 2 : bad), -102);
        }
        CHECK.same("43 nothing", Lanes.element(x, 1, 0), -102);
        x.keep(1, 1, 0, 0);
        CHECK.same("43 a kind", Lanes.element(x, 1, 0), -102);
        CHECK.same("43 no shelf ahead of no place", Lanes.element(x, 8, -1), -101);
    }

    private static void copy() {
        LaidDownTheLane x = new LaidDownTheLane();
        for (int sort = 0; sort < 3; sort++) {
            Lanes.fill(x, 0, sort, 1, 2, 3, 4);
            Lanes.fill(x, 1, sort, 9, 9, 9, 9, 9);
            CHECK.same("44 how many", x.copy(0, 1, 1, 2, 3), 3);
            long[] due = {9, 9, 2, 3, 4};
            for (int i = 0; i < 5; i++) {
                CHECK.same("44 element " + i, Lanes.element(x, 1, i), due[i]);
            }
            CHECK.same("44 from stays", Lanes.element(x, 0, 1), 2);
            CHECK.same("44 none", x.copy(0, 4, 1, 5, 0), 0);
            CHECK.same("44 all", x.copy(0, 0, 1, 0, 4), 4);
        }
    }

    private static void copyOntoItself() {
        LaidDownTheLane x = new LaidDownTheLane();
        Lanes.fill(x, 0, Lanes.BYTES, 1, 2, 3, 4, 5);
        CHECK.same("44 upward", x.copy(0, 0, 0, 1, 4), 4);
        long[] up = {1, 1, 2, 3, 4};
        for (int i = 0; i < 5; i++) {
            CHECK.same("44 upward " + i, Lanes.element(x, 0, i), up[i]);
        }
        CHECK.same("44 downward", x.copy(0, 2, 0, 0, 3), 3);
        long[] down = {2, 3, 4, 3, 4};
        for (int i = 0; i < 5; i++) {
            CHECK.same("44 downward " + i, Lanes.element(x, 0, i), down[i]);
        }
    }

    private static void copyRefuses() {
        LaidDownTheLane x = new LaidDownTheLane();
        x.row(0, 0, 3);
        x.row(1, 0, 2);
        x.row(2, 1, 3);
        x.keep(3, 1, 0, 0);
        for (int bad : FAR) {
            CHECK.same("44 no shelf from " + bad, x.copy(bad, 0, 7, 0, 1), -1);
            CHECK.same("44 no shelf to " + bad, x.copy(7, 0, bad, 0, 1), -1);
        }
        CHECK.same("44 nothing from", x.copy(7, 0, 3, 0, 1), -11);
        CHECK.same("44 nothing to", x.copy(3, 0, 7, 0, 1), -11);
        CHECK.same("44 a kind from", x.copy(3, 9, 0, 0, 1), -12);
        CHECK.same("44 a kind to", x.copy(0, 9, 3, 0, 1), -12);
        CHECK.same("44 not one sort", x.copy(0, 9, 2, 0, 1), -12);
        int[][] bad = {{-1, 0, 1}, {0, -1, 1}, {0, 0, -1}, {0, 0, 3}, {2, 0, 2}, {0, 1, 2}, {3, 0, 1}, {0, 2, 1},
            {4, 0, 0}, {0, 3, 0}, {Lanes.MAX, 0, 1}, {0, Lanes.MAX, 1}, {1, 1, Lanes.MAX}, {Lanes.MIN, 0, Lanes.MIN},
            {Lanes.MAX, Lanes.MAX, Lanes.MAX}, {1, 1, Lanes.MIN}};
        for (int k = 0; k < bad.length; k++) {
            CHECK.same("44 no place " + k, x.copy(0, bad[k][0], 1, bad[k][1], bad[k][2]), -13);
        }
    }

    private static void cost() {
        LaidDownTheLane x = new LaidDownTheLane();
        for (int f = 0; f <= 9; f++) {
            int[] due = {1, 5, f + 2, f + 1, 2, 6, 2 * (f + 2), 9 + f};
            for (int kind = 0; kind < 8; kind++) {
                x.keep(0, 1, kind, f);
                CHECK.same("45 kind " + kind + " figure " + f, x.cost(0), due[kind]);
            }
        }
        for (int bad : FAR) {
            CHECK.same("45 no shelf " + bad, x.cost(bad), -1);
        }
        CHECK.same("45 nothing", x.cost(1), -11);
        x.row(1, 0, 0);
        CHECK.same("45 a row", x.cost(1), -12);
    }

    private static void toss() {
        LaidDownTheLane x = new LaidDownTheLane();
        for (int f = 0; f <= 9; f++) {
            int[] due = {f, -15, 100 + f, 100 + f, f, f, 200 + 2 * (f + 2), f};
            for (int kind = 0; kind < 8; kind++) {
                x.keep(0, 1, kind, f);
                CHECK.same("46 kind " + kind + " figure " + f, x.toss(0), f == 0 ? -15 : due[kind]);
            }
        }
        for (int bad : FAR) {
            CHECK.same("46 no shelf " + bad, x.toss(bad), -1);
        }
        CHECK.same("46 nothing", x.toss(1), -11);
        x.row(1, 0, 0);
        CHECK.same("46 a row", x.toss(1), -12);
    }
}
