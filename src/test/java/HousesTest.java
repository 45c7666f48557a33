/** Promises 29 to 36: houses. */
public final class HousesTest {
    private static final Check CHECK = new Check("HousesTest");
    // HEIGHT 140: the TOP lies 163 away, the kick reaches 23 feet.
    private static final String HOUSES = "o00140;o00141;o06023;o06024;o01153;o01173;";

    public static void main(String[] args) {
        hits();
        topsSide();
        topsDistance();
        breaks();
        sendOut();
        crowd();
        safest();
        fell();
        forged();
        rowsRefused();
        judge();
        judgeSorts();
        judgeBeyondSixty();
        judgeRefuses();
        days();
        daysOfHouses();
        daysOfBricks();
        daysRefuse();
        CHECK.end();
    }

    private static void hits() {
        LaidDownTheLane x = Lanes.of(HOUSES);
        CHECK.same("29 no farther than the height", x.hits(0, 0), 1);
        CHECK.same("29 it does not break", x.hits(0, 1), -4);
        CHECK.same("29 no distance", x.hits(0, 2), -4);
        CHECK.same("29 kicked", x.hits(0, 3), 4);
        CHECK.same("29 kicked without a break, hit behind", x.hits(6, 0), 4 | 8);
        CHECK.same("29 too far to be kicked", x.hits(6, 3), 0);
        x.set(2, 3);
        x.set(3, 10);
        CHECK.same("29 the top hits within 10 feet", x.hits(0, 0), 1 | 16 | 32);
        CHECK.same("29 top's side", x.hits(0, 1), 1);
        CHECK.same("29 top's distance", x.hits(0, 2), 163);
        CHECK.same("29 kicked as well", x.hits(0, 3), 4);
        LaidDownTheLane near = Lanes.of("o01152;o01174;o01154;o01172;w0310;");
        CHECK.same("29 not beyond 10 feet", near.hits(0, 0), 4 | 8);
        LaidDownTheLane same = Lanes.of("o03150;o03160;w0310;");
        CHECK.same("29 the top where it falls", same.hits(3, 0), 2);
        int[] none = {-1, 12, Lanes.MIN, Lanes.MAX};
        for (int bad : none) {
            CHECK.same("29 no side " + bad, x.hits(bad, 0), -1);
            CHECK.same("29 no such what " + bad, x.hits(0, bad == 12 ? 4 : bad), -1);
        }
        LaidDownTheLane down = Lanes.of("g400;" + HOUSES);
        CHECK.same("29 while down", down.hits(0, 0) + down.hits(0, 3), 5);
    }

    private static void topsSide() {
        for (int wind = 0; wind < 12; wind++) {
            LaidDownTheLane x = Lanes.of("g000;w" + Lanes.two(wind) + "10;");
            for (int side = 0; side < 12; side++) {
                int up = (wind - side + 12) % 12;
                int due = up == 0 ? side : up <= 6 ? (side + 1) % 12 : (side + 11) % 12;
                CHECK.same("29 wind " + wind + " fall " + side, x.hits(side, 1), due);
            }
        }
        LaidDownTheLane x = Lanes.of("g000;w0610;");
        CHECK.same("29 both alike upward", x.hits(0, 1), 1);
        CHECK.same("29 both alike upward round", x.hits(11, 1), 10);
        CHECK.same("29 upward round the corner", Lanes.of("g000;w0410;").hits(11, 1), 0);
    }

    private static void topsDistance() {
        int[] heights = {20, 21, 23, 24, 140, 142, 199, 200};
        int[] far = {23, 24, 26, 28, 163, 165, 232, 233};
        for (int k = 0; k < heights.length; k++) {
            LaidDownTheLane x = Lanes.of("w0010;h" + Lanes.three(heights[k]) + ";");
            CHECK.same("29 top's distance of " + heights[k], x.hits(4, 2), far[k]);
        }
    }

    private static void breaks() {
        CHECK.same("29 9 miles do not", Lanes.of("w0009;").hits(0, 2), -4);
        CHECK.same("29 10 miles do", Lanes.of("w0010;").hits(0, 2), 163);
        CHECK.same("29 9 minutes do not", Lanes.of("f;n09;").hits(0, 2), -4);
        CHECK.same("29 10 minutes do", Lanes.of("f;n10;").hits(0, 2), 163);
    }

    private static void sendOut() {
        LaidDownTheLane x = Lanes.of("o00010;o01010;o11010;o02010;o10010;o05023;");
        CHECK.same("30 the lane, both beside, kicks", x.sendOut(), 1 | 2 | 4 | 32);
        LaidDownTheLane y = Lanes.of("o06023;o07023;o05024;o00141;o04010;o08010;");
        CHECK.same("30 kicks", y.sendOut(), 1 | 2);
        LaidDownTheLane z = Lanes.of("a11;o10163;o00010;o09163;o01163;w0910;");
        CHECK.same("30 with the top, round the corner", z.sendOut(), 1 | 2 | 4);
        CHECK.same("30 none", new LaidDownTheLane().sendOut(), 0);
        CHECK.same("30 while down", Lanes.of("o00010;g400;").sendOut(), 1);
    }

    private static void crowd() {
        int[] still = {140, 0, 0, 0, 0, 0, 23, 0, 0, 0, 0, 0};
        int[] aside = {140, 173, 0, 0, 0, 0, 23, 0, 0, 0, 0, 0};
        int[] along = {173, 0, 0, 0, 0, 0, 23, 0, 0, 0, 0, 0};
        for (int side = 0; side < 12; side++) {
            CHECK.same("31 still air " + side, new LaidDownTheLane().crowd(side), still[side]);
            CHECK.same("31 top aside " + side, Lanes.of("w0310;").crowd(side), aside[side]);
            CHECK.same("31 top along " + side, Lanes.of("w0010;").crowd(side), along[side]);
        }
        LaidDownTheLane x = Lanes.of("a10;h200;w1110;");
        CHECK.same("31 the lane", x.crowd(10), 200);
        CHECK.same("31 the top", x.crowd(11), 243);
        CHECK.same("31 the kick", x.crowd(4), 33);
        CHECK.same("31 nothing", x.crowd(9), 0);
        CHECK.same("31 no side below", x.crowd(-1), -1);
        CHECK.same("31 no side above", x.crowd(12), -1);
        CHECK.same("31 while down", Lanes.of("g400;").crowd(0), 140);
    }

    private static void safest() {
        CHECK.same("32 no houses", new LaidDownTheLane().safest(), 0);
        CHECK.same("32 the first free", Lanes.of("o00010;o01010;o02010;").safest(), 3);
        CHECK.same("32 kicks count", Lanes.of("o00100;o07010;").safest(), 2);
        CHECK.same("32 the top counts", Lanes.of("o00100;o02163;w0310;").safest(), 2);
        CHECK.same("32 all have some", Lanes.of("o00010;o01010;o02010;o03010;o04010;o05010;").safest(), 0);
        LaidDownTheLane x = Lanes.of("o00000;o00001;o01000;o02000;o03000;o04000;");
        CHECK.same("32 none is hit", x.safest(), 5);
        CHECK.same("32 while down", Lanes.of("o00010;g400;").safest(), 1);
    }

    private static void fell() {
        LaidDownTheLane x = Lanes.of("o00100;o03100;o06020;");
        for (int sort = 0; sort < 3; sort++) {
            int skip = sort == 0 ? -128 : sort == 1 ? -32768 : Lanes.MIN;
            Lanes.fill(x, 0, sort, 1);
            CHECK.same("33 the first hit", x.fell(0), 1);
            Lanes.fill(x, 0, sort, skip, skip, 1);
            CHECK.same("33 hit or kicked", x.fell(0), 1 | 64);
            Lanes.fill(x, 0, sort, 0, skip, 1);
            CHECK.same("33 not by the first", x.fell(0), 64);
            Lanes.fill(x, 0, sort, 0, 0, 0);
            CHECK.same("33 none of them", x.fell(0), 4095 - 1 - 8 - 64);
            Lanes.fill(x, 0, sort, 1, 1, 0);
            CHECK.same("33 it can't be", x.fell(0), 0);
            Lanes.fill(x, 0, sort, 2);
            CHECK.same("33 neither 0 nor 1", x.fell(0), 0);
            Lanes.fill(x, 0, sort, -1);
            CHECK.same("33 below 0", x.fell(0), 0);
            Lanes.fill(x, 0, sort);
            CHECK.same("33 told nothing", x.fell(0), 4095);
            Lanes.fill(x, 0, sort, skip, skip, skip);
            CHECK.same("33 all skipped", x.fell(0), 4095);
        }
        Lanes.fill(x, 0, Lanes.SHORTS, -128);
        CHECK.same("33 the least of its own sort only", x.fell(0), 0);
        LaidDownTheLane top = Lanes.of("o01163;f;n10;w0300;");
        Lanes.fill(top, 0, Lanes.BYTES, 1);
        CHECK.same("33 the top, by minute and wind as now", top.fell(0), 1);
    }

    private static void forged() {
        LaidDownTheLane x = Lanes.of("o00100;o03100;o06020;");
        for (int sort = 0; sort < 3; sort++) {
            int skip = sort == 0 ? -128 : sort == 1 ? -32768 : Lanes.MIN;
            int[][] rows = {{}, {1, 0, 1}, {1, 1, 0}, {0, 1, 1}, {2}, {skip, 2, 1}, {skip, skip, skip}, {0, 0, 5}, {1, skip, 0}};
            int[] due = {-4, -4, 1, 2, 0, 1, -4, 2, 2};
            for (int k = 0; k < rows.length; k++) {
                Lanes.fill(x, 0, sort, rows[k]);
                CHECK.same("34 row " + k, x.forged(0), due[k]);
            }
        }
        x.set(4, 400);
        CHECK.same("34 while down", x.forged(0), 2);
        LaidDownTheLane all = Lanes.of("o00000;o01000;o02000;o03000;o04000;o05000;");
        Lanes.fill(all, 0, Lanes.BYTES, 0, 0, 0, 0, 0, 0);
        CHECK.same("34 there are twelve sides, each strikes one", all.forged(0), 5);
        CHECK.same("33 there are twelve sides, each strikes one", all.fell(0), 0);
    }

    private static void rowsRefused() {
        LaidDownTheLane x = Lanes.of("o00100;o03100;");
        int[] none = {-1, 8, Lanes.MIN, Lanes.MAX};
        for (int bad : none) {
            CHECK.same("33 no shelf " + bad, x.fell(bad), -1);
            CHECK.same("34 no shelf " + bad, x.forged(bad), -1);
        }
        CHECK.same("33 nothing", x.fell(1), -11);
        CHECK.same("34 nothing", x.forged(1), -11);
        x.keep(1, 1, 0, 0);
        CHECK.same("33 a kind", x.fell(1), -12);
        CHECK.same("34 a kind", x.forged(1), -12);
        x.row(1, Lanes.BYTES, 3);
        CHECK.same("33 more than houses", x.fell(1), -13);
        CHECK.same("34 more than houses", x.forged(1), -13);
        x.row(1, Lanes.BYTES, 2);
        CHECK.same("33 as many as houses", x.fell(1), 4095 - 1 - 8);
        CHECK.same("34 as many as houses", x.forged(1), -4);
        x.set(4, 400);
        CHECK.same("33 while down", x.fell(1), 4095 - 1 - 8);
    }

    private static void judge() {
        LaidDownTheLane falls = Lanes.of("g091;c0021;c0121;c1121;");
        LaidDownTheLane stands = Lanes.of("g090;c0021;c0121;c1121;");
        int[][] rows = {{}, {12}, {11}, {12, 12, 12, 12, 12, 12}, {12, 12, 12, 12, 12, 12, 9},
            {12, 12, 12, 12, 12, 12, 12}, {12, 12, 11, 12, 12, 12, 9}, {12, 12, 12, 12, 12, 12, 0},
            {12, 12, 12, 12, 12, 12, 9, 9, 9, 8}};
        int[] dueFalls = {-4, -4, 0, -4, 6, 6, 2, 6, 6};
        int[] dueStands = {-4, -4, 0, -4, -4, 6, 2, 6, 9};
        for (int k = 0; k < rows.length; k++) {
            Lanes.fill(falls, 0, Lanes.INTS, rows[k]);
            Lanes.fill(stands, 0, Lanes.INTS, rows[k]);
            CHECK.same("35 it falls, row " + k, falls.judge(0), dueFalls[k]);
            CHECK.same("35 it stands, row " + k, stands.judge(0), dueStands[k]);
        }
        CHECK.same("35 no fire is lit", falls.count(2), 0);
        stands.light();
        stands.minutes(4);
        Lanes.fill(stands, 0, Lanes.INTS, 12, 12, 9, 9);
        CHECK.same("35 from now on", stands.judge(0), -4);
        falls.light();
        falls.minutes(4);
        Lanes.fill(falls, 0, Lanes.INTS, 12, 12, 9);
        CHECK.same("35 it falls from now on", falls.judge(0), 2);
    }

    private static void judgeSorts() {
        LaidDownTheLane x = Lanes.of("g091;c0021;c0121;c1121;");
        for (int sort = 0; sort < 3; sort++) {
            int skip = sort == 0 ? -128 : sort == 1 ? -32768 : Lanes.MIN;
            Lanes.fill(x, 0, sort, skip, 12, skip, skip, 12, 12, skip, skip);
            CHECK.same("35 skipped, by the fall, too", x.judge(0), -4);
            Lanes.fill(x, 0, sort, skip, 12, skip, skip, 12, 12, skip, 9);
            CHECK.same("35 the next is not", x.judge(0), 7);
        }
        Lanes.fill(x, 0, Lanes.INTS, -128);
        CHECK.same("35 the least of its own sort only", x.judge(0), 0);
        CHECK.same("35 nothing that bears is not told", Lanes.of("c0010;").count(4), 11);
    }

    private static void judgeBeyondSixty() {
        LaidDownTheLane bricks = new LaidDownTheLane();
        int[] skips = {-128, -32768, Lanes.MIN};
        for (int sort = 0; sort < 3; sort++) {
            for (int size = 59; size <= 64; size++) {
                Lanes.fill(bricks, 0, sort, told(size, 12));
                CHECK.same("35 of so many " + size, bricks.judge(0), size <= 61 ? -4 : 61);
            }
            Lanes.fill(bricks, 0, sort, told(100, 12));
            for (int i = 61; i < 99; i++) {
                bricks.put(0, i, skips[sort]);
                CHECK.same("35 skipped beyond 60, to " + i, bricks.judge(0), i + 1);
            }
            bricks.put(0, 99, skips[sort]);
            CHECK.same("35 all skipped beyond 60", bricks.judge(0), -4);
            bricks.put(0, 99, 0);
            CHECK.same("35 the last place", bricks.judge(0), 99);
            bricks.put(0, 60, 11);
            CHECK.same("35 place 60 is looked at", bricks.judge(0), 60);
        }
        LaidDownTheLane later = Lanes.of("g090;c0021;c0121;c1121;f;n50;");
        Lanes.fill(later, 0, Lanes.BYTES, told(62, 9));
        CHECK.same("35 beyond 60 from now", later.judge(0), 61);
        Lanes.fill(later, 0, Lanes.BYTES, told(61, 9));
        CHECK.same("35 till 60 from now", later.judge(0), -4);
    }

    private static int[] told(int size, int number) {
        int[] row = new int[size];
        for (int i = 0; i < size; i++) {
            row[i] = number;
        }
        return row;
    }

    private static void judgeRefuses() {
        LaidDownTheLane x = new LaidDownTheLane();
        CHECK.same("35 no shelf below", x.judge(-1), -1);
        CHECK.same("35 no shelf above", x.judge(8), -1);
        CHECK.same("35 nothing", x.judge(0), -11);
        x.keep(0, 1, 0, 0);
        CHECK.same("35 a kind", x.judge(0), -12);
        x.set(4, 400);
        CHECK.same("35 a kind ahead of down", x.judge(0), -12);
        CHECK.same("35 nothing ahead of down", x.judge(1), -11);
        x.row(0, Lanes.BYTES, 0);
        CHECK.same("35 down", x.judge(0), -3);
    }

    private static void days() {
        // Seed 1 draws the winds (2, 4), (9, 1), (7, 20), (6, 6); -1 draws (5, 20), (10, 6), (1, 2), (8, 17).
        LaidDownTheLane x = Lanes.of("g091;c0021;c0121;c1121;");
        int[] due = {1, 2, 2, 2};
        for (int n = 1; n <= 4; n++) {
            CHECK.same("36 seed 1, days " + n, x.days(n, 1, 0), due[n - 1]);
        }
        int[] below0 = {0, 1, 2, 2};
        for (int n = 1; n <= 4; n++) {
            CHECK.same("36 seed -1, days " + n, x.days(n, -1, 0), below0[n - 1]);
        }
        CHECK.same("36 the wind is as it was", x.set(2, 0) + x.set(3, 0), 0);
        CHECK.same("36 no fire is lit", x.count(2), 0);
        x.set(6, 6);
        CHECK.same("36 not to the lane", x.days(4, 1, 0), 0);
        CHECK.same("36 most days", new LaidDownTheLane().days(20, 5, 0), 0);
    }

    private static void daysOfHouses() {
        // It falls to 0 in the MINUTE 6 in winds (2, 4) and (9, 1): the TOP stays whole, HOUSES 0 and 3 are struck.
        LaidDownTheLane x = Lanes.of("g091;c0021;c0121;c1121;o00100;o01163;o11163;o06010;o04100;");
        CHECK.same("36 two falls", x.days(2, 1, 1), 4);
        x.set(6, 6);
        CHECK.same("36 to whatever side", x.days(2, 1, 1), 4);
        // With FIGURE 3 they are gone at 10: the TOP breaks off and lies at 1, then at 11.
        LaidDownTheLane y = Lanes.of("g091;c0023;c0123;c1123;o00100;o01163;o11163;o06010;o04100;");
        CHECK.same("36 by the minute of the fall", y.days(1, 1, 1), 3);
        CHECK.same("36 by the wind of the day", y.days(2, 1, 1), 6);
        CHECK.same("36 nothing now", y.hits(0, 1), -4);
        CHECK.same("36 no falls", new LaidDownTheLane().days(20, 1, 1), 0);
    }

    /** Reckoned apart, by another program: WEIGHT, seed, LANE, to the LANE, HOUSES. */
    private static void daysOfBricks() {
        int[][] due = {{250, 0, 3, 0, 1}, {250, 1, 0, 1, 4}, {300, 2, 6, 0, 10}, {300, -1, 9, 2, 13},
            {342, 123456789, 3, 4, 15}, {342, Lanes.MIN, 0, 4, 17}, {342, Lanes.MAX, 6, 6, 20}};
        for (int[] row : due) {
            LaidDownTheLane x = Lanes.of("o03100;o06020;o09165;o00010;o04160;o08090;g" + Lanes.three(row[0]) + ";");
            x.set(6, row[2]);
            CHECK.same("36 bricks, seed " + row[1], x.days(20, row[1], 0), row[3]);
            CHECK.same("36 bricks' houses, seed " + row[1], x.days(20, row[1], 1), row[4]);
        }
    }

    private static void daysRefuse() {
        LaidDownTheLane x = new LaidDownTheLane();
        LaidDownTheLane down = Lanes.of("g400;");
        int[] none = {0, -1, 21, Lanes.MIN, Lanes.MAX};
        for (int bad : none) {
            CHECK.same("36 days " + bad, x.days(bad, 1, 0), -1);
            CHECK.same("36 days ahead of down " + bad, down.days(bad, 1, 0), -1);
        }
        CHECK.same("36 no such what above", x.days(1, 1, 2), -1);
        CHECK.same("36 no such what below", x.days(1, 1, -1), -1);
        CHECK.same("36 what ahead of down", down.days(1, 1, 2), -1);
        CHECK.same("36 down", down.days(1, 1, 0), -3);
    }
}
