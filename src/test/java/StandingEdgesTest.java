/** The boundary cases that the terms and promises 12 to 21 name; each method stands for one sentence. */
public final class StandingEdgesTest {
    private static final Check CHECK = new Check("StandingEdgesTest");
    private static final long FAR_NO_SUCH = -1000000001L;
    private static final String NO_CELLS = "g000;c0010;c0110;c0210;c0310;c0410;c0510;c0610;c0710;c0810;c0910;c1010;c1110;";

    public static void main(String[] args) {
        sidesOutOfRange();
        holdsOfNothing();
        standsWhereAlike();
        fallsToTheLeastOfSeveral();
        fellStays();
        canCutWhatBearsSomething();
        canCutAtTheMinute();
        weakestOfSeveral();
        forLaneTakesFive();
        forLaneOfSeveral();
        forLaneNever();
        orderSets();
        orderBehindTheLast();
        orderOfEight();
        roundAtEachSide();
        roundElsewhere();
        moreOnOfSeveral();
        moreOnRound();
        questionsLeaveNothing();
        CHECK.end();
    }

    // "Of presses(), lacks() ... -1 is -1000000001"
    private static void sidesOutOfRange() {
        LaidDownTheLane x = new LaidDownTheLane();
        int[] bad = {-1, 12, Lanes.MIN, Lanes.MAX};
        for (int side : bad) {
            CHECK.same("12 no SIDE " + side, x.presses(side), FAR_NO_SUCH);
            CHECK.same("13 no SIDE " + side, x.holds(side), -1);
            CHECK.same("14 no SIDE " + side, x.lacks(side), FAR_NO_SUCH);
        }
        CHECK.same("12 the last SIDE", x.presses(11), 150);
        CHECK.same("13 the last SIDE", x.holds(11), 352);
        CHECK.same("14 -1 is an answer, too", Lanes.of("g341;").lacks(0), -1);
        CHECK.same("14 so is -3", Lanes.of("g339;").lacks(3), -3);
    }

    // No CELL is left: all are 0
    private static void holdsOfNothing() {
        LaidDownTheLane x = Lanes.of(NO_CELLS);
        for (int side = 0; side < 12; side++) {
            CHECK.same("13 nothing holds " + side, x.holds(side), 0);
            CHECK.same("14 nothing lacks " + side, x.lacks(side), 0);
        }
        CHECK.same("15 it STANDS", x.falls(), -4);
        CHECK.same("16 nothing can be cut", x.canCut(), 0);
        CHECK.same("17 of twelve the least", x.weakest(), 0);
        CHECK.same("18 never", x.forLane(), -4);
        CHECK.same("19 those CUT in order", x.order(255, 7), 7);
        CHECK.same("20 never", x.round(), -4);
        CHECK.same("21 neither", x.moreOn(), 0);
        CHECK.same("39 CELLS that bear", x.count(4), 0);
        CHECK.same("39 all BEARS", x.count(5), 0);
        x.set(4, 1);
        CHECK.same("15 it FALLS by one pound", x.falls(), 0);
    }

    // "it STANDS, if PRESSES is nowhere above HOLDS"
    private static void standsWhereAlike() {
        LaidDownTheLane x = Lanes.of("g342;");
        CHECK.same("14 LACKS 0", x.lacks(0), 0);
        CHECK.same("15 STANDS", x.falls(), -4);
        x.set(4, 343);
        CHECK.same("14 LACKS 1", x.lacks(0), 1);
        CHECK.same("15 FALLS", x.falls(), 0);
    }

    // "to the SIDE where PRESSES is by most above HOLDS, of several the least"
    private static void fallsToTheLeastOfSeveral() {
        CHECK.same("15 of four", Lanes.of("g350;").falls(), 0);
        CHECK.same("15 of three, 0 held", Lanes.of("c0070;g350;").falls(), 3);
        CHECK.same("15 of two, 0 and 3 held", Lanes.of("c0070;c0370;g350;").falls(), 6);
        CHECK.same("15 the last alone", Lanes.of("c0070;c0370;c0670;g350;").falls(), 9);
        CHECK.same("15 by most, not the least", Lanes.of("c1110;g300;").falls(), 11);
    }

    // "To which SIDE it FALLS now, or fell"
    private static void fellStays() {
        LaidDownTheLane x = Lanes.of("c1110;g300;");
        x.house(0, 0);
        CHECK.same("15 it fell", x.falls(), 11);
        x.image();
        x.anew();
        CHECK.same("15 anew it STANDS", x.falls(), -4);
        x.restore();
        CHECK.same("15 it fell there", x.falls(), 11);
    }

    // "CELLS (bits) that BEAR something"
    private static void canCutWhatBearsSomething() {
        LaidDownTheLane x = Lanes.of("g000;c0020;c0121;c0219;c0359;c1160;");
        CHECK.same("16 without CUT ones and PROPS of 0", x.canCut(), 4095 - 1 - 4 - 2048);
        // SIDE 0 holds 252, 1 and 11 hold 271: what bears on them can't go.
        CHECK.same("16 those away from the gap", Lanes.of("g250;c0010;").canCut(), 16 | 32 | 64 | 128 | 256);
    }

    // "(MINUTE as now)"
    private static void canCutAtTheMinute() {
        LaidDownTheLane x = Lanes.of("g000;c0021;f;n05;");
        CHECK.same("16 it bears still", x.canCut(), 4095);
        x.minutes(1);
        CHECK.same("16 it is burnt", x.canCut(), 4094);
    }

    // WEAKEST "of several the least"
    private static void weakestOfSeveral() {
        CHECK.same("17 of four", new LaidDownTheLane().weakest(), 0);
        CHECK.same("17 of three", Lanes.of("c0070;").weakest(), 3);
        CHECK.same("17 of two", Lanes.of("c0070;c0370;").weakest(), 6);
        CHECK.same("17 the last one", Lanes.of("c1110;").weakest(), 11);
        CHECK.same("17 of two at 0", Lanes.of("g342;c1170;").weakest(), 3);
    }

    // "the fewest CELLS": all five that hold the LANE
    private static void forLaneTakesFive() {
        LaidDownTheLane x = Lanes.of("g000;l0001;");
        CHECK.same("18 five round the corner", x.forLane(), 1 | 2 | 4 | 1024 | 2048);
        LaidDownTheLane y = Lanes.of("g000;l0601;a06;");
        CHECK.same("18 five at the other SIDE", y.forLane(), 16 | 32 | 64 | 128 | 256);
        int[] cells = {4, 5, 6, 7};
        for (int c : cells) {
            y.cuts(c);
        }
        CHECK.same("18 one is left", y.forLane(), 256);
        y.cuts(8);
        CHECK.same("18 so it does", y.falls(), 6);
    }

    // "of several the least"
    private static void forLaneOfSeveral() {
        CHECK.same("18 0 and 1 as 0 and 11", Lanes.of("g252;").forLane(), 3);
        CHECK.same("18 one fewer is better than less", Lanes.of("g253;a09;").forLane(), 512);
        CHECK.same("18 at the last SIDE", Lanes.of("g258;a11;").forLane(), 2048);
    }

    // FOR THE LANE "-4"
    private static void forLaneNever() {
        CHECK.same("18 no WEIGHT", Lanes.of("g000;").forLane(), -4);
        CHECK.same("18 the WIND from the LANE", Lanes.of("g100;w0620;").forLane(), -4);
    }

    // order: "-1 (set 1 .. 4095, more than 8, i below 0)"
    private static void orderSets() {
        LaidDownTheLane x = Lanes.of("g000;");
        for (int c = 0; c < 12; c++) {
            CHECK.same("19 one CELL", x.order(1 << c, 0), c);
        }
        CHECK.same("19 the least set", x.order(1, 0), 0);
        CHECK.same("19 the greatest of eight", x.order(4080, 0), 4);
        CHECK.same("19 4095 is more than eight", x.order(4095, 0), -1);
        CHECK.same("19 4096 is out of range", x.order(4096, 0), -1);
        CHECK.same("19 so are 1 and 4096", x.order(4097, 0), -1);
        CHECK.same("19 so is all of it", x.order(-1, 0), -1);
        CHECK.same("19 so is the greatest", x.order(Lanes.MAX, 0), -1);
        CHECK.same("19 nine", x.order(511, 0), -1);
        CHECK.same("19 i -1", x.order(255, -1), -1);
        CHECK.same("19 i the least number", x.order(255, Lanes.MIN), -1);
        LaidDownTheLane down = Lanes.of("g400;");
        CHECK.same("19 each ahead of DOWN", down.order(0, 0) + down.order(511, 0) + down.order(1, -1), -3);
        CHECK.same("19 DOWN", down.order(255, 8), -3);
    }

    // "in which it STANDS behind each but the last (behind that it may or not)"; "-4"
    private static void orderBehindTheLast() {
        LaidDownTheLane x = Lanes.of("g253;");
        CHECK.same("19 FALLS behind the last", x.order(1, 0), 0);
        CHECK.same("19 STANDS behind the last", x.order(2, 0), 1);
        CHECK.same("19 0 can't be the first", x.order(1 | 4 | 256, 0), 2);
        CHECK.same("19 nor the second", x.order(1 | 4 | 256, 1), 8);
        CHECK.same("19 it is the last", x.order(1 | 4 | 256, 2), 0);
        CHECK.same("19 0 and 3 can't both be the last", x.order(1 | 8, 0), -4);
        CHECK.same("19 nor can a third help", x.order(1 | 8 | 32, 2), -4);
        CHECK.same("19 as many as the set has", x.order(2 | 32, 2), -4);
        CHECK.same("19 the one ahead of that", x.order(2 | 32, 1), 5);
        CHECK.same("19 the greatest number", x.order(2 | 32, Lanes.MAX), -4);
    }

    // "(8 at most) the order ... the first such by CELLS rising"
    private static void orderOfEight() {
        LaidDownTheLane x = Lanes.of("g005;");
        // The SIDES 6, 7, 8, 9 are held by 4 to 8, 5 to 9, 6 to 10, 7 to 11: only 8 can be the last.
        int[] onlyEight = {4, 5, 6, 7, 9, 10, 11, 8, -4};
        // The SIDES 0, 1, 2, 3 are held by 10 to 2, 11 to 3, 0 to 4, 1 to 5: 1 and 2 can; 2 leaves 1 to be early.
        int[] oneOrTwo = {0, 1, 3, 4, 5, 10, 11, 2, -4};
        for (int i = 0; i < 9; i++) {
            CHECK.same("19 only 8 the last " + i, x.order(4080, i), onlyEight[i]);
            CHECK.same("19 1 or 2 the last " + i, x.order(7 | 56 | 3072, i), oneOrTwo[i]);
        }
        CHECK.same("19 nothing is cut", x.count(4), 12);
    }

    // ROUND "(1, 3, 5, .. CELLS in all)"
    private static void roundAtEachSide() {
        for (int lane = 0; lane < 12; lane++) {
            String a = "a" + Lanes.two(lane) + ";";
            CHECK.same("20 one at " + lane, Lanes.of("g270;" + a + "w" + Lanes.two(lane) + "02;").round(), 1);
            CHECK.same("20 three at " + lane, Lanes.of("g150;" + a).round(), 3);
            CHECK.same("20 five at " + lane, Lanes.of("g005;" + a).round(), 5);
        }
    }

    // "-4 (not to the LANE, too)"
    private static void roundElsewhere() {
        CHECK.same("20 to the next upward", Lanes.of("w0115;").round(), -4);
        CHECK.same("20 to the next downward", Lanes.of("w1115;").round(), -4);
        CHECK.same("20 to none", Lanes.of("g000;").round(), -4);
        CHECK.same("20 to the one behind only", Lanes.of("g000;l0601;").round(), -4);
    }

    // MORE ON "of several the least"
    private static void moreOnOfSeveral() {
        CHECK.same("21 all alike", Lanes.of(NO_CELLS).moreOn(), 0);
        CHECK.same("21 against a gap upward", Lanes.of("g000;c0110;").moreOn(), 2);
        CHECK.same("21 against a gap downward", Lanes.of("g000;c1110;").moreOn(), 1);
        CHECK.same("21 both CUT already", Lanes.of("g000;c0110;c1110;w0101;").moreOn(), 0);
    }

    // "the next SIDE's CELL upward from the LANE, 2 downward": just these CELLS, round the corner, too
    private static void moreOnRound() {
        CHECK.same("21 upward, not the second", Lanes.of("g000;a08;c0540;").moreOn(), 1);
        CHECK.same("21 downward, not the second", Lanes.of("g000;a10;c1140;").moreOn(), 2);
        CHECK.same("21 upward from 11", Lanes.of("g000;a11;w1005;").moreOn(), 1);
        CHECK.same("21 downward from 0", Lanes.of("g000;a00;w0105;").moreOn(), 2);
    }

    // A question that tries another WIND, other PROPS or other CUTS leaves none of them to the next.
    private static void questionsLeaveNothing() {
        LaidDownTheLane x = Lanes.of("g253;w0400;");
        x.winds(0);
        CHECK.same("16 behind winds", x.canCut(), 3510);
        x.winds(0);
        CHECK.same("18 behind winds", x.forLane(), 1);
        x.winds(0);
        CHECK.same("19 behind winds", x.order(6, 0) * 10 + x.order(6, 1), 12);
        LaidDownTheLane y = Lanes.of("w0200;");
        y.winds(0);
        CHECK.same("20 behind winds", y.round(), 3);
        y.winds(0);
        CHECK.same("21 behind winds", y.moreOn(), 0);
        y.winds(0);
        CHECK.same("28 behind winds, three", y.sits(), 3);
        LaidDownTheLane z = Lanes.of("c0810;w0200;");
        z.winds(0);
        CHECK.same("27 behind winds", z.wedge(), 8);
        z.sits();
        CHECK.same("27 behind cuts", z.wedge(), 8);
    }
}
