/** The boundary cases that the terms and promises 29 to 36 name; each method stands for one sentence. */
public final class HousesEdgesTest {
    private static final Check CHECK = new Check("HousesEdgesTest");
    private static final int[] SKIPS = {-128, -32768, Lanes.MIN};
    private static final int[] FAR = {-1, 12, Lanes.MIN, Lanes.MAX};

    public static void main(String[] args) {
        hitsUpToHeight();
        hitsWithinTenFeetOfTheTop();
        topOverTwoCut();
        kicksUpToASixth();
        topBreaksFromTenOn();
        topToTheWindsSide();
        bothAlikeUpward();
        notBroken();
        sixHouses();
        hitsOutOfRange();
        sendOutRound();
        crowdEnds();
        crowdAtTheMinute();
        safestOfSeveral();
        rowAsLongAsHouses();
        rowOfNoHouses();
        leastNumbersAreSkipped();
        otherNumbersFitNoSide();
        forgedFirstPlace();
        rowRefusalsInOrder();
        judgeFromTheFallOn();
        judgeEnds();
        judgeRefusalsInOrder();
        daysEnds();
        daysSeedsWrap();
        daysLeaveNothing();
        CHECK.end();
    }

    // "at that SIDE that are no farther than HEIGHT"; HEIGHT "20 .. 200", distance "0 .. 240"
    private static void hitsUpToHeight() {
        LaidDownTheLane least = Lanes.of("h020;o11020;o11021;o11000;o10020;o00020;");
        CHECK.same("29 HEIGHT 20", least.hits(11, 0), 1 | 4);
        LaidDownTheLane most = Lanes.of("h200;o11200;o11201;o11240;");
        CHECK.same("29 HEIGHT 200", most.hits(11, 0), 1);
        most.set(5, 199);
        CHECK.same("29 one foot less", most.hits(11, 0), 0);
    }

    // "HITS those at that SIDE whose distance is within 10 feet of it"
    private static void hitsWithinTenFeetOfTheTop() {
        LaidDownTheLane least = Lanes.of("h020;w0310;o01012;o01013;o01033;o01034;o00030;o02023;");
        CHECK.same("29 13 to 33", least.hits(0, 0), 2 | 4);
        LaidDownTheLane most = Lanes.of("h200;w0310;o01222;o01223;o01240;o00201;");
        CHECK.same("29 223 to 243", most.hits(0, 0), 2 | 4);
        LaidDownTheLane along = Lanes.of("w0010;o00140;o00141;o00152;o00153;o00173;o00174;");
        CHECK.same("29 a gap between HEIGHT and the TOP", along.hits(0, 0), 1 | 8 | 16);
    }

    // "the TOP (a third of HEIGHT, cut)"; "HEIGHT plus (TOP over 2, cut) away"
    private static void topOverTwoCut() {
        int[] heights = {20, 21, 22, 23, 24, 26, 27, 198, 200};
        int[] far = {23, 24, 25, 26, 28, 30, 31, 231, 233};
        for (int k = 0; k < heights.length; k++) {
            LaidDownTheLane x = Lanes.of("w0510;h" + Lanes.three(heights[k]) + ";");
            CHECK.same("29 HEIGHT " + heights[k], x.hits(0, 2), far[k]);
        }
    }

    // "those at the SIDE behind (6 round) that are no farther than a sixth of HEIGHT, cut"
    private static void kicksUpToASixth() {
        int[] heights = {20, 23, 24, 198, 200};
        int[] sixth = {3, 3, 4, 33, 33};
        for (int k = 0; k < heights.length; k++) {
            LaidDownTheLane x = new LaidDownTheLane();
            x.set(5, heights[k]);
            x.house(1, sixth[k]);
            x.house(1, sixth[k] + 1);
            x.house(1, 0);
            x.house(7, 0);
            CHECK.same("29 KICKED by HEIGHT " + heights[k], x.hits(7, 3), 1 | 4);
        }
        LaidDownTheLane x = new LaidDownTheLane();
        for (int h = 0; h < 6; h++) {
            x.house(2 * h, 0);
        }
        for (int side = 0; side < 12; side++) {
            CHECK.same("29 6 round from " + side, x.hits(side, 3), side % 2 == 0 ? 1 << (side + 6) % 12 / 2 : 0);
        }
    }

    // "breaks off, if MINUTE is 10 or more or WIND is 10 or more"
    private static void topBreaksFromTenOn() {
        LaidDownTheLane x = Lanes.of("w0309;f;n09;");
        CHECK.same("29 9 and 9 do not", x.hits(0, 1), -4);
        x.image();
        x.set(3, 10);
        CHECK.same("29 10 miles do", x.hits(0, 1), 1);
        x.restore();
        x.minutes(1);
        CHECK.same("29 10 MINUTES do", x.hits(0, 1), 1);
        x.set(3, 0);
        CHECK.same("29 toward WIND's SIDE by 0 miles, too", x.hits(0, 1), 1);
    }

    // "(... where it FALLS, if that is WIND's)"
    private static void topToTheWindsSide() {
        for (int side = 0; side < 12; side++) {
            LaidDownTheLane x = Lanes.of("g000;w" + Lanes.two(side) + "10;");
            CHECK.same("29 where it FALLS " + side, x.hits(side, 1), side);
            CHECK.same("29 from the next downward " + side, x.hits((side + 11) % 12, 1), side);
            CHECK.same("29 from the next upward " + side, x.hits((side + 1) % 12, 1), side);
            CHECK.same("29 five upward " + side, x.hits((side + 7) % 12, 1), (side + 8) % 12);
            CHECK.same("29 five downward " + side, x.hits((side + 5) % 12, 1), (side + 4) % 12);
        }
    }

    // "(by the shorter way, of both alike upward ...)"
    private static void bothAlikeUpward() {
        for (int side = 0; side < 12; side++) {
            LaidDownTheLane x = Lanes.of("g000;w" + Lanes.two((side + 6) % 12) + "10;");
            CHECK.same("29 both alike from " + side, x.hits(side, 1), (side + 1) % 12);
        }
    }

    // "-4 it does not break"
    private static void notBroken() {
        LaidDownTheLane x = Lanes.of("w0009;o00163;o00140;o06023;");
        CHECK.same("29 no TOP's SIDE", x.hits(0, 1), -4);
        CHECK.same("29 no TOP's distance", x.hits(0, 2), -4);
        CHECK.same("29 the TOP HITS none", x.hits(0, 0), 2);
        CHECK.same("29 KICKED all the same", x.hits(0, 3), 4);
    }

    // "HOUSES 0 .. 5 as they come (6 at most)"
    private static void sixHouses() {
        LaidDownTheLane x = Lanes.of("o00000;o00010;o00020;o00100;o00139;o00140;");
        CHECK.same("29 all six", x.hits(0, 0), 63);
        CHECK.same("29 three KICKED", x.hits(6, 3), 7);
        CHECK.same("30 all six", x.sendOut(), 63);
        CHECK.same("29 none yet", new LaidDownTheLane().hits(0, 0), 0);
    }

    private static void hitsOutOfRange() {
        LaidDownTheLane x = new LaidDownTheLane();
        for (int bad : FAR) {
            for (int what = 0; what < 4; what++) {
                CHECK.same("29 no SIDE " + bad, x.hits(bad, what), -1);
            }
            CHECK.same("31 no SIDE " + bad, x.crowd(bad), -1);
        }
        CHECK.same("29 no what -1", x.hits(0, -1), -1);
        CHECK.same("29 no what 4", x.hits(0, 4), -1);
        CHECK.same("29 the last SIDE", x.hits(11, 0), 0);
        CHECK.same("31 the last SIDE", x.crowd(11), 0);
    }

    // "to the LANE or to a SIDE beside it"
    private static void sendOutRound() {
        CHECK.same("30 LANE 0", Lanes.of("o11100;o00100;o01100;o02100;o10100;").sendOut(), 7);
        CHECK.same("30 LANE 11", Lanes.of("a11;o11100;o00100;o10100;o01100;o09100;").sendOut(), 7);
        CHECK.same("30 KICKED round", Lanes.of("a06;o11023;o00023;o01023;o02023;o10023;").sendOut(), 7);
    }

    // "the least distance (0 .. 300) at a SIDE beyond which nothing comes (HEIGHT, TOP and 10, kick ...)"
    private static void crowdEnds() {
        int[] heights = {20, 140, 200};
        int[] top = {33, 173, 243};
        int[] kick = {3, 23, 33};
        for (int k = 0; k < 3; k++) {
            LaidDownTheLane x = Lanes.of("a11;w0010;h" + Lanes.three(heights[k]) + ";");
            CHECK.same("31 HEIGHT", x.crowd(11), heights[k]);
            CHECK.same("31 TOP and 10, round", x.crowd(0), top[k]);
            CHECK.same("31 kick", x.crowd(5), kick[k]);
            CHECK.same("31 nothing", x.crowd(10), 0);
            x.set(2, 11);
            CHECK.same("31 TOP and 10 in the LANE", x.crowd(11), top[k]);
            CHECK.same("31 none beside it", x.crowd(0), 0);
            x.set(3, 9);
            CHECK.same("31 no TOP", x.crowd(11), heights[k]);
        }
    }

    private static void crowdAtTheMinute() {
        LaidDownTheLane x = Lanes.of("a05;f;n09;");
        CHECK.same("31 MINUTE 9", x.crowd(4), 0);
        x.minutes(1);
        CHECK.same("31 MINUTE 10", x.crowd(4), 173);
        CHECK.same("31 HEIGHT at MINUTE 10", x.crowd(5), 140);
    }

    // SAFEST "of several the least"
    private static void safestOfSeveral() {
        CHECK.same("32 of twelve", new LaidDownTheLane().safest(), 0);
        CHECK.same("32 of two with none, the one", Lanes.of("o00010;o01010;o02010;o03010;o04010;").safest(), 5);
        CHECK.same("32 all struck once", Lanes.of("o00010;o01010;o02010;o03010;o04010;o05010;").safest(), 0);
        CHECK.same("32 all but the last struck", Lanes.of("o00010;o01010;o02010;o03010;o04010;o11100;").safest(), 5);
        LaidDownTheLane x = Lanes.of("o00010;o01010;o02010;o03010;o04010;o05100;");
        CHECK.same("32 the last one is safest", x.safest(), 11);
    }

    // "-13 more numbers than HOUSES"
    private static void rowAsLongAsHouses() {
        LaidDownTheLane x = Lanes.of("o00000;o01000;o02000;o03000;o04000;o05000;");
        x.row(0, Lanes.INTS, 6);
        CHECK.same("33 six", x.fell(0), 0);
        CHECK.same("34 six", x.forged(0), 5);
        x.row(0, Lanes.INTS, 7);
        CHECK.same("33 seven", x.fell(0), -13);
        CHECK.same("34 seven", x.forged(0), -13);
        x.row(0, Lanes.INTS, 100);
        CHECK.same("33 a hundred", x.fell(0), -13);
        x.row(0, Lanes.INTS, 5);
        CHECK.same("33 fewer", x.fell(0), 1 << 5 | 1 << 11);
        CHECK.same("34 fewer", x.forged(0), -4);
    }

    private static void rowOfNoHouses() {
        LaidDownTheLane x = new LaidDownTheLane();
        x.row(0, Lanes.BYTES, 0);
        CHECK.same("33 no numbers, no HOUSES", x.fell(0), 4095);
        CHECK.same("34 no numbers, no HOUSES", x.forged(0), -4);
        x.row(0, Lanes.BYTES, 1);
        CHECK.same("33 a number, no HOUSES", x.fell(0), -13);
        CHECK.same("34 a number, no HOUSES", x.forged(0), -13);
    }

    // "(the least number of the SORT is skipped)"
    private static void leastNumbersAreSkipped() {
        LaidDownTheLane x = Lanes.of("o00100;o03100;");
        for (int sort = 0; sort < 3; sort++) {
            Lanes.fill(x, 0, sort, SKIPS[sort], 1);
            CHECK.same("33 skipped in SORT " + sort, x.fell(0), 8);
            Lanes.fill(x, 0, sort, SKIPS[sort] + 1, 1);
            CHECK.same("33 one more is not", x.fell(0), 0);
            CHECK.same("34 one more is not", x.forged(0), 0);
            Lanes.fill(x, 1, sort, SKIPS[sort], 12);
            CHECK.same("35 skipped in SORT " + sort, x.judge(1), -4);
            Lanes.fill(x, 1, sort, SKIPS[sort] + 1, 12);
            CHECK.same("35 one more is not", x.judge(1), 0);
        }
        Lanes.fill(x, 0, Lanes.INTS, -32768, 1);
        CHECK.same("33 another SORT's is not", x.fell(0), 0);
        Lanes.fill(x, 0, Lanes.BYTES, 128, 1);
        CHECK.same("33 put as 128, it is -128", x.fell(0), 8);
    }

    // ".. 1 it was HIT or KICKED, 0 not"
    private static void otherNumbersFitNoSide() {
        LaidDownTheLane x = Lanes.of("o00100;");
        int[] none = {-1, 2, 127, -127};
        for (int number : none) {
            Lanes.fill(x, 0, Lanes.BYTES, number);
            CHECK.same("33 neither 1 nor 0: " + number, x.fell(0), 0);
            CHECK.same("34 neither 1 nor 0: " + number, x.forged(0), 0);
        }
        Lanes.fill(x, 0, Lanes.BYTES, 0);
        CHECK.same("33 not", x.fell(0), 4094);
        Lanes.fill(x, 0, Lanes.BYTES, 1);
        CHECK.same("33 HIT", x.fell(0), 1);
    }

    // "the first place such that no SIDE fits all up to it; -4"
    private static void forgedFirstPlace() {
        LaidDownTheLane x = Lanes.of("o11100;o05010;o00100;o06100;o03100;o09100;");
        int[][] rows = {{1, 1, 0, 0, 0, 0}, {1, 0, 0, 0, 0, 0}, {0, 1, 0, 0, 0, 0}, {0, 0, 1, 1, 0, 0},
            {0, 0, 0, 0, 0, 0}, {0, 0, 0, 0, 1, 1}};
        int[] due = {-4, 1, -4, 3, -4, 5};
        for (int k = 0; k < rows.length; k++) {
            Lanes.fill(x, 0, Lanes.SHORTS, rows[k]);
            CHECK.same("34 row " + k, x.forged(0), due[k]);
        }
        // 5 and 11 are HIT and KICKED together: by one alone no SIDE is left.
        LaidDownTheLane both = Lanes.of("o11010;o05010;");
        Lanes.fill(both, 0, Lanes.SHORTS, 0, 1);
        CHECK.same("34 the second alone", both.forged(0), 1);
        Lanes.fill(both, 0, Lanes.SHORTS, 1, 0);
        CHECK.same("34 the first alone", both.forged(0), 1);
    }

    // fell, forged: "-1, -11, -12, -13 likewise"
    private static void rowRefusalsInOrder() {
        LaidDownTheLane x = new LaidDownTheLane();
        x.keep(0, 1, 0, 0);
        int[] bad = {-1, 8, Lanes.MIN, Lanes.MAX};
        for (int d : bad) {
            CHECK.same("33 no SHELF " + d, x.fell(d), -1);
            CHECK.same("34 no SHELF " + d, x.forged(d), -1);
            CHECK.same("35 no SHELF " + d, x.judge(d), -1);
        }
        CHECK.same("33 a KIND", x.fell(0), -12);
        CHECK.same("34 a KIND", x.forged(0), -12);
        CHECK.same("33 nothing on the last SHELF", x.fell(7), -11);
        CHECK.same("34 nothing on the last SHELF", x.forged(7), -11);
    }

    // "(from the MINUTE on at which it FALLS, beyond 60, too ...)"
    private static void judgeFromTheFallOn() {
        LaidDownTheLane x = Lanes.of("g091;c0021;c0121;c1121;f;n05;");
        Lanes.fill(x, 0, Lanes.BYTES, 12, 9, 9);
        CHECK.same("35 the next MINUTE it FALLS", x.judge(0), 1);
        Lanes.fill(x, 0, Lanes.BYTES, 12);
        CHECK.same("35 this one it STANDS", x.judge(0), -4);
        Lanes.fill(x, 0, Lanes.BYTES, 12, -128, -128, 9);
        CHECK.same("35 the first behind it that is told", x.judge(0), 3);
        LaidDownTheLane late = Lanes.of("g091;c0039;c0139;c1139;");
        late.row(0, Lanes.BYTES, 45);
        for (int i = 0; i < 45; i++) {
            late.put(0, i, 12);
        }
        CHECK.same("35 44 is the FALL's", late.judge(0), 44);
        late.put(0, 44, 9);
        CHECK.same("35 whatever it tells", late.judge(0), 44);
        late.put(0, 44, 128);
        CHECK.same("35 unless it is skipped", late.judge(0), -4);
    }

    // "place 0: now"; a ROW has 0 .. 100 elements
    private static void judgeEnds() {
        LaidDownTheLane x = new LaidDownTheLane();
        x.row(0, Lanes.INTS, 0);
        CHECK.same("35 nothing told", x.judge(0), -4);
        Lanes.fill(x, 0, Lanes.INTS, 12);
        CHECK.same("35 now", x.judge(0), -4);
        Lanes.fill(x, 0, Lanes.INTS, 11);
        CHECK.same("35 not now", x.judge(0), 0);
        x.row(0, Lanes.INTS, 100);
        for (int i = 0; i < 100; i++) {
            x.put(0, i, i < 61 ? 12 : Lanes.MIN);
        }
        CHECK.same("35 60 places on, the rest skipped", x.judge(0), -4);
        x.put(0, 99, 12);
        CHECK.same("35 beyond 60", x.judge(0), 99);
        x.light();
        x.minutes(1);
        CHECK.same("35 lit as well", x.judge(0), 99);
    }

    // judge: "-1, -11, -12 (no ROW), -3"
    private static void judgeRefusalsInOrder() {
        LaidDownTheLane x = Lanes.of("g400;");
        x.row(0, Lanes.BYTES, 0);
        x.keep(1, 1, 0, 0);
        CHECK.same("35 no SHELF ahead of DOWN", x.judge(8), -1);
        CHECK.same("35 nothing ahead of DOWN", x.judge(2), -11);
        CHECK.same("35 a KIND ahead of DOWN", x.judge(1), -12);
        CHECK.same("35 DOWN, though nothing is told", x.judge(0), -3);
    }

    // "n days (1 .. 20)"
    private static void daysEnds() {
        LaidDownTheLane x = Lanes.of("g342;o00100;");
        CHECK.same("36 none", x.days(0, 1, 0), -1);
        CHECK.same("36 twenty-one", x.days(21, 1, 0), -1);
        CHECK.same("36 twenty and one what too many", x.days(20, 1, 2), -1);
        int sum = 0;
        for (int n = 1; n <= 20; n++) {
            int more = x.days(n, 1, 1);
            CHECK.same("36 never fewer by day " + n, more >= sum ? 1 : 0, 1);
            sum = more;
        }
        LaidDownTheLane down = Lanes.of("g343;");
        CHECK.same("36 n ahead of DOWN", down.days(21, 1, 0), -1);
        CHECK.same("36 DOWN", down.days(20, 1, 1), -3);
    }

    // "z becomes z times 1103515245 plus 12345 (an int); (z without its sign's bit over 65536, cut) modulo n"
    private static void daysSeedsWrap() {
        int[] seeds = {0, 1, -1, 2, 12345, Lanes.MIN, Lanes.MAX, Lanes.MIN + 1};
        for (int seed : seeds) {
            for (int lane = 0; lane < 12; lane++) {
                LaidDownTheLane x = Lanes.of("g300;");
                x.set(6, lane);
                x.house(lane, 0);
                CHECK.same("36 seed " + seed + ", LANE " + lane, x.days(1, seed, 0), oneDay(seed, lane));
                x.set(6, 0);
                CHECK.same("36 its HOUSE, seed " + seed + ", SIDE " + lane, x.days(1, seed, 1),
                    oneDay(seed, lane) + oneDay(seed, (lane + 6) % 12));
            }
        }
    }

    /** 1, if the first day's WIND, alone, brings WEIGHT 300 down to the SIDE: BRICKS hold 342 or 352. */
    private static int oneDay(int seed, int side) {
        long first = (seed * 1103515245L + 12345L) & 0xffffffffL;
        long second = (first * 1103515245L + 12345L) & 0xffffffffL;
        int windSide = (int) ((first & 0x7fffffffL) >> 16) % 12;
        int miles = (int) ((second & 0x7fffffffL) >> 16) % 21;
        LaidDownTheLane x = Lanes.of("g300;w" + Lanes.two(windSide) + Lanes.two(miles) + ";");
        return x.falls() == side ? 1 : 0;
    }

    private static void daysLeaveNothing() {
        LaidDownTheLane x = Lanes.of("g330;w0701;");
        x.days(20, 7, 1);
        CHECK.same("36 the WIND's SIDE stays", x.set(2, 7), 7);
        CHECK.same("36 its miles stay", x.set(3, 1), 1);
        CHECK.same("36 it STANDS", x.falls(), -4);
    }
}
