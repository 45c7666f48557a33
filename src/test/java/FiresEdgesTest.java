/** The boundary cases that the terms and promises 22 to 28 name; each method stands for one sentence. */
public final class FiresEdgesTest {
    private static final Check CHECK = new Check("FiresEdgesTest");
    private static final long FAR_NO_SUCH = -1000000001L;
    private static final long FAR_NOT_SO = -1000000003L;
    // At MINUTE 6 SIDE 0 holds 90 only, and presses 91.
    private static final String PROPPED = "g091;c0021;c0121;c1121;";
    // All odd CELLS are CUT: where the PROP at 0, 4 or 8 goes first, it FALLS to 1, 3 or 7; of several the least.
    private static final String THREE_PROPS = "g090;c0110;c0310;c0510;c0710;c0910;c1110;c0021;c0421;c0821;";

    public static void main(String[] args) {
        willNext();
        willLongest();
        willNever();
        willLitOrNot();
        thickBetween();
        thickEnds();
        windsFromNoneToTwenty();
        anyWindInLeastTerms();
        unlikeInLeastTerms();
        unlikeSixAtMost();
        unlikeThirdsCut();
        unlikeSoonerThanNow();
        wedgeOnlyLess();
        wedgeOfSeveral();
        sitsInTurn();
        sitsRefuses();
        partsOutOfRange();
        CHECK.end();
    }

    // "the MINUTE (0 .. 60 on) at which it FALLS"
    private static void willNext() {
        LaidDownTheLane x = Lanes.of(PROPPED + "f;n05;");
        CHECK.same("22 the next MINUTE", x.will(0), 1);
        CHECK.same("22 to SIDE 0, not none", x.will(1), 0);
        x.minutes(1);
        CHECK.same("22 DOWN then", x.will(0), -3);
    }

    private static void willLongest() {
        LaidDownTheLane x = Lanes.of("g091;c0039;c0139;c1139;");
        CHECK.same("22 44 on", x.will(0), 44);
        x.light();
        x.minutes(43);
        CHECK.same("22 43 later", x.will(0), 1);
        CHECK.same("22 the LANE does not matter", x.set(6, 5) + x.will(1), 0);
    }

    // "-4 in 60"
    private static void willNever() {
        LaidDownTheLane x = Lanes.of("g090;c0021;c0121;c1121;");
        CHECK.same("22 it STANDS on what does not burn", x.will(0), -4);
        CHECK.same("22 to no SIDE", x.will(1), -4);
        x.light();
        x.minutes(99);
        CHECK.same("22 nor when all is burnt", x.will(0), -4);
    }

    // "FIRE being lit now (or as it is)"
    private static void willLitOrNot() {
        LaidDownTheLane x = Lanes.of(PROPPED);
        CHECK.same("22 not lit", x.will(0), 6);
        x.light();
        CHECK.same("22 lit", x.will(0), 6);
        x.minutes(2);
        CHECK.same("22 from now on", x.will(0), 4);
        x.anew();
        CHECK.same("22 anew", x.will(0), -4);
    }

    // "that by which it FALLS to the LANE latest ... of several the least"
    private static void thickBetween() {
        // 2 is gone at 11: then the PROPS hold SIDE 0 as long as they last; 4 is gone at 16: it FALLS to 5, if not to 0.
        LaidDownTheLane x = Lanes.of("g075;c0010;c0110;c1110;c0269;c0520;c0620;c0720;c0426;");
        CHECK.same("23 6 till 16, 7 and more not to the LANE", x.thick(1), 6);
        x.set(6, 5);
        CHECK.same("23 7, 8, 9 alike to the other LANE", x.thick(1), 7);
        x.set(6, 6);
        CHECK.same("23 to none", x.thick(1), -4);
        x.set(6, 0);
        x.light();
        x.minutes(10);
        CHECK.same("23 from MINUTE 10 on", x.thick(1), 6);
        CHECK.same("23 it STANDS now", x.thick(0), 1);
    }

    // "PROPS of FIGURE f in all CUT CELLS, f 1 .. 9"
    private static void thickEnds() {
        LaidDownTheLane nine = Lanes.of("g090;c0269;c0010;c0110;c1110;");
        CHECK.same("23 the thickest", nine.thick(1), 9);
        LaidDownTheLane one = Lanes.of("g090;c0229;c0010;c0110;c1110;");
        CHECK.same("23 the thinnest", one.thick(1), 1);
        LaidDownTheLane none = Lanes.of(PROPPED);
        CHECK.same("23 no CUT CELLS: all alike", none.thick(1), 1);
        CHECK.same("23 no CUT CELLS: it STANDS", none.thick(0), 1);
        CHECK.same("23 CUT CELLS with a FIGURE are CUT", Lanes.of("g090;c0269;c0019;c0119;c1119;").thick(1), 9);
    }

    // "WINDS to WIND's SIDE (0 .. 20)": both ends count
    private static void windsFromNoneToTwenty() {
        LaidDownTheLane x = Lanes.of(PROPPED + "w0000;");
        CHECK.same("24 0 to 20", x.winds(0), 21);
        CHECK.same("24 20", x.winds(1), 20);
        LaidDownTheLane y = Lanes.of(PROPPED + "w0600;");
        CHECK.same("24 0 alone", y.winds(0), 1);
        CHECK.same("24 0 is no -4", y.winds(1), 0);
        LaidDownTheLane z = Lanes.of("g150;c0310;a03;w0311;");
        CHECK.same("24 252 is reached by 11 miles, from 11 on", z.count(3), 1);
        z = Lanes.of("g150;c0310;a03;w0310;");
        CHECK.same("24 those that would be a FALL now", z.winds(0), 10);
        CHECK.same("24 the greatest of those", z.winds(1), 20);
    }

    // "of all twelve SIDES alike likely ... a fraction in least terms"
    private static void anyWindInLeastTerms() {
        LaidDownTheLane x = Lanes.of("g150;c0010;w0611;");
        CHECK.same("25 only to the gap", x.anyWind(0) * 100 + x.anyWind(1), 112);
        x.set(3, 12);
        CHECK.same("25 3 of 12", x.anyWind(0) * 100 + x.anyWind(1), 104);
        x.set(3, 0);
        CHECK.same("25 0 of 12", x.anyWind(0) * 100 + x.anyWind(1), 1);
        CHECK.same("25 12 of 12", Lanes.of(PROPPED).anyWind(0) * 100 + Lanes.of(PROPPED).anyWind(1), 101);
    }

    // "alike likely ...: a fraction in least terms"
    private static void unlikeInLeastTerms() {
        int[] lanes = {1, 3, 7, 0, 11};
        int[] above = {14, 8, 5, 0, 0};
        int[] below = {27, 27, 27, 1, 1};
        for (int k = 0; k < lanes.length; k++) {
            LaidDownTheLane x = Lanes.of(THREE_PROPS + "a" + Lanes.two(lanes[k]) + ";");
            CHECK.same("26 above, LANE " + lanes[k], x.unlike(0), above[k]);
            CHECK.same("26 below, LANE " + lanes[k], x.unlike(1), below[k]);
        }
    }

    // "(6 such at most)", promise 26: "-3 (more than 6, too)"
    private static void unlikeSixAtMost() {
        // Oiled ones of FIGURE 0 bear nothing: they burn, and matter nothing.
        LaidDownTheLane x = Lanes.of(THREE_PROPS + "a01;c0160;c0360;c0560;");
        CHECK.same("26 six above", x.unlike(0), 14);
        CHECK.same("26 six below", x.unlike(1), 27);
        x.keep(0, 1, 6, 0);
        CHECK.same("26 a seventh", x.lays(0, 7), 1);
        CHECK.same("26 more than six above", x.unlike(0), FAR_NOT_SO);
        CHECK.same("26 more than six below", x.unlike(1), FAR_NOT_SO);
        CHECK.same("26 a part ahead of it", x.unlike(2), FAR_NO_SUCH);
        x.cuts(7);
        CHECK.same("26 six again", x.unlike(0), 14);
    }

    // "a third of its MINUTES (cut)"
    private static void unlikeThirdsCut() {
        // The PROP at 0 goes at 4, 6 or 8, the oiled one at 6 at 4, 5 or 6; both at once is a FALL to 0.
        String town = "g095;c0110;c1110;c0510;c0710;c0021;c0663;";
        LaidDownTheLane x = Lanes.of(town);
        CHECK.same("26 4 against any, and 6 against 6", x.unlike(0) * 10 + x.unlike(1), 49);
        x.set(6, 6);
        CHECK.same("26 all others", x.unlike(0) * 10 + x.unlike(1), 59);
        // BURNS 2: a third, cut, is 0.
        LaidDownTheLane y = Lanes.of("g000;c0060;");
        CHECK.same("26 nothing to be sooner by", y.unlike(1), 1);
    }

    private static void unlikeSoonerThanNow() {
        LaidDownTheLane x = Lanes.of(PROPPED + "f;n05;");
        CHECK.same("26 it FALLS now in some, all the same", x.unlike(0), 1);
        CHECK.same("26 always", x.unlike(1), 1);
        LaidDownTheLane y = Lanes.of(THREE_PROPS + "a07;f;n05;");
        CHECK.same("26 sooner is the same as now", y.unlike(0) * 100 + y.unlike(1), 527);
    }

    // WEDGE: "less than now"
    private static void wedgeOnlyLess() {
        CHECK.same("27 of four SIDES alike none", new LaidDownTheLane().wedge(), -4);
        CHECK.same("27 three SIDES are held, the fourth is not", Lanes.of("c0070;c0370;c0670;").wedge(), 9);
        CHECK.same("27 a wedge in place of a wedge is none", Lanes.of("c0070;c0370;c0670;c0970;").wedge(), -4);
    }

    // WEDGE: "of several the least"
    private static void wedgeOfSeveral() {
        CHECK.same("27 two gaps alike", Lanes.of("g000;c0010;c0110;").wedge(), 0);
        CHECK.same("27 a gap at the last CELL", Lanes.of("g000;c1110;").wedge(), 11);
    }

    // "if the LANE's is first, then the next upward, the next downward, the second upward and so on"
    private static void sitsInTurn() {
        CHECK.same("28 the next upward, round", Lanes.of("g253;a11;").sits(), 2);
        CHECK.same("28 upward, though it bears nothing, ahead of downward", Lanes.of("g170;a01;c0220;").sits(), 3);
        CHECK.same("28 the LANE's is CUT already", Lanes.of("g150;c0010;").sits(), 2);
        CHECK.same("28 the next upward is, too", Lanes.of("g150;c0010;c0110;").sits(), 1);
        CHECK.same("28 CUT with a FIGURE is skipped, too", Lanes.of("g150;c0019;c0119;").sits(), 1);
        CHECK.same("28 to whatever SIDE", Lanes.of("g341;a04;").sits(), 1);
        CHECK.same("28 all twelve", Lanes.of("g000;l0601;").sits(), 12);
        CHECK.same("28 the last that is left", Lanes.of("g000;l0601;c0010;c0110;c1110;c0210;c1010;").sits(), 7);
    }

    // sits: "-3 (it is lit, it FALLS, too)"; "-4"
    private static void sitsRefuses() {
        CHECK.same("28 never", Lanes.of("g000;").sits(), -4);
        CHECK.same("28 lit", Lanes.of("f;").sits(), -3);
        CHECK.same("28 DOWN", Lanes.of("g343;").sits(), -3);
        CHECK.same("28 DOWN and lit", Lanes.of("f;g343;").sits(), -3);
        LaidDownTheLane x = Lanes.of("f;g343;");
        x.anew();
        CHECK.same("28 DOWN anew", x.sits(), -3);
    }

    // "Of presses(), lacks(), and of longs -1 is -1000000001, -3 -1000000003"
    private static void partsOutOfRange() {
        LaidDownTheLane x = new LaidDownTheLane();
        LaidDownTheLane down = Lanes.of("g343;");
        int[] bad = {-1, 2, 3, Lanes.MIN, Lanes.MAX};
        for (int part : bad) {
            CHECK.same("25 no part " + part, x.anyWind(part), FAR_NO_SUCH);
            CHECK.same("26 no part " + part, x.unlike(part), FAR_NO_SUCH);
            CHECK.same("22 no such " + part, x.will(part), -1);
            CHECK.same("23 no such " + part, x.thick(part), -1);
            CHECK.same("24 no such " + part, x.winds(part), -1);
            CHECK.same("25 no part ahead of DOWN " + part, down.anyWind(part), FAR_NO_SUCH);
            CHECK.same("26 no part ahead of DOWN " + part, down.unlike(part), FAR_NO_SUCH);
        }
        CHECK.same("25 DOWN", down.anyWind(1), FAR_NOT_SO);
        CHECK.same("26 DOWN", down.unlike(1), FAR_NOT_SO);
    }
}
