/** Promises 12 to 21: how it stands. */
public final class HowItStandsTest {
    private static final Check CHECK = new Check("HowItStandsTest");
    private static final long FAR_NO_SUCH = -1000000001L;

    public static void main(String[] args) {
        presses();
        holds();
        lacks();
        falls();
        canCut();
        weakest();
        forLane();
        order();
        orderRefuses();
        round();
        moreOn();
        down();
        CHECK.end();
    }

    private static void presses() {
        LaidDownTheLane x = Lanes.of("l0101;");
        CHECK.same("12 with the lean", x.presses(1), 160);
        CHECK.same("12 against it, cut toward 0", x.presses(7), 140);
        CHECK.same("12 aside", x.presses(4), 150);
        x.set(2, 1);
        x.set(3, 1);
        CHECK.same("12 both together by 10", x.presses(1), 171);
        CHECK.same("12 both against", x.presses(7), 129);
        LaidDownTheLane y = Lanes.of("g000;l0020;w0000;");
        CHECK.same("12 below 0", y.presses(6), -200);
        CHECK.same("12 one beside", y.presses(1), 180);
        CHECK.same("12 two beside", y.presses(2), 100);
        CHECK.same("12 square", y.presses(3), 0);
        CHECK.same("12 no side below", y.presses(-1), FAR_NO_SUCH);
        CHECK.same("12 no side above", y.presses(12), FAR_NO_SUCH);
        CHECK.same("12 while down", Lanes.of("g400;").presses(5), 400);
    }

    private static void holds() {
        LaidDownTheLane x = new LaidDownTheLane();
        for (int side = 0; side < 12; side++) {
            CHECK.same("13 bricks on " + side, x.holds(side), side % 3 == 0 ? 342 : 352);
        }
        x.cuts(0);
        int[] cut0 = {252, 271, 307, 342, 352, 352, 342, 352, 352, 342, 307, 271};
        for (int side = 0; side < 12; side++) {
            CHECK.same("13 without 0 on " + side, x.holds(side), cut0[side]);
        }
        LaidDownTheLane y = Lanes.of("g000;c0021;f;n05;");
        CHECK.same("13 a prop bears", y.holds(0), 262);
        y.minutes(1);
        CHECK.same("13 a burnt prop does not", y.holds(0), 252);
        CHECK.same("13 no side below", y.holds(-1), -1);
        CHECK.same("13 no side above", y.holds(12), -1);
        CHECK.same("13 while down", Lanes.of("g400;").holds(5), 352);
    }

    private static void lacks() {
        LaidDownTheLane x = new LaidDownTheLane();
        CHECK.same("14 bricks", x.lacks(0), 150 - 342);
        CHECK.same("14 bricks askew", x.lacks(1), 150 - 352);
        CHECK.same("14 no side below", x.lacks(-1), FAR_NO_SUCH);
        CHECK.same("14 no side above", x.lacks(12), FAR_NO_SUCH);
        CHECK.same("14 while down", Lanes.of("g400;").lacks(0), 58);
    }

    private static void falls() {
        CHECK.same("15 as much as it holds", Lanes.of("g342;").falls(), -4);
        CHECK.same("15 one more, of four the least", Lanes.of("g343;").falls(), 0);
        CHECK.same("15 by most", Lanes.of("g342;w0401;").falls(), 3);
        CHECK.same("15 by most beside the wind", Lanes.of("w0405;g345;").falls(), 3);
        CHECK.same("15 to the strong wind", Lanes.of("w0420;").falls(), 4);
        LaidDownTheLane x = Lanes.of("g400;");
        x.house(0, 0);
        CHECK.same("15 or fell", x.falls(), 0);
    }

    private static void canCut() {
        CHECK.same("16 each alone", Lanes.of("g252;").canCut(), 4095);
        CHECK.same("16 not the square ones", Lanes.of("g253;").canCut(), 3510);
        CHECK.same("16 the others still", Lanes.of("g257;").canCut(), 3510);
        CHECK.same("16 none", Lanes.of("g258;").canCut(), 0);
        LaidDownTheLane x = Lanes.of("g000;c0010;c0120;c0260;c0321;");
        CHECK.same("16 what bears something", x.canCut(), 4095 - 1 - 2 - 4);
        x.light();
        x.minutes(6);
        CHECK.same("16 the minute as now", x.canCut(), 4095 - 15);
        CHECK.same("16 nothing is cut", x.count(4), 8);
    }

    private static void weakest() {
        CHECK.same("17 of several the least", new LaidDownTheLane().weakest(), 0);
        CHECK.same("17 in the wind", Lanes.of("w0410;").weakest(), 4);
        CHECK.same("17 where it is cut", Lanes.of("c0810;").weakest(), 8);
        CHECK.same("17 the second side", Lanes.of("w0110;").weakest(), 1);
        CHECK.same("17 the last side", Lanes.of("w1110;").weakest(), 11);
        CHECK.same("17 below 0 throughout", Lanes.of("g000;c1010;").weakest(), 10);
    }

    private static void forLane() {
        CHECK.same("18 one is enough", Lanes.of("g253;").forLane(), 1);
        CHECK.same("18 for another lane", Lanes.of("g253;a09;").forLane(), 512);
        CHECK.same("18 two, of several the least", Lanes.of("g252;").forLane(), 3);
        CHECK.same("18 never", Lanes.of("g000;").forLane(), -4);
        CHECK.same("18 one cut already", Lanes.of("g150;c0010;c0110;").forLane(), 1024);
        LaidDownTheLane x = Lanes.of("g150;c0010;c0110;");
        x.cuts(10);
        CHECK.same("18 so it does", x.falls(), 0);
        LaidDownTheLane burnt = Lanes.of("g090;c0021;c0121;c1121;f;n06;");
        CHECK.same("18 the minute as now", burnt.forLane(), 4);
    }

    private static void order() {
        LaidDownTheLane x = Lanes.of("g253;");
        CHECK.same("19 one", x.order(1, 0), 0);
        CHECK.same("19 one has no second", x.order(1, 1), -4);
        CHECK.same("19 the bad one last", x.order(3, 0), 1);
        CHECK.same("19 then it", x.order(3, 1), 0);
        CHECK.same("19 no third", x.order(3, 2), -4);
        CHECK.same("19 two bad ones", x.order(9, 0), -4);
        CHECK.same("19 rising if they can", x.order(6, 0) * 10 + x.order(6, 1), 12);
        LaidDownTheLane y = Lanes.of("g100;");
        int[] rising = {0, 1, 4, 7, 8, -4};
        int set = 1 | 2 | 16 | 128 | 256;
        for (int i = 0; i < rising.length; i++) {
            CHECK.same("19 rising " + i, y.order(set, i), rising[i]);
        }
        int[] eight = {0, 1, 2, 3, 6, 9, 10, 11, -4};
        for (int i = 0; i < eight.length; i++) {
            CHECK.same("19 of eight " + i, Lanes.of("g005;").order(0xE4F, i), eight[i]);
        }
        CHECK.same("19 far on", Lanes.of("g005;").order(0xE4F, Lanes.MAX), -4);
        CHECK.same("19 those cut already, too", Lanes.of("g100;c0010;").order(3, 0), 0);
    }

    private static void orderRefuses() {
        LaidDownTheLane x = Lanes.of("g005;");
        CHECK.same("19 set 0", x.order(0, 0), -1);
        CHECK.same("19 set below 0", x.order(-1, 0), -1);
        CHECK.same("19 set above", x.order(4096, 0), -1);
        CHECK.same("19 nine", x.order(511, 0), -1);
        CHECK.same("19 eight", x.order(255, 0), 0);
        CHECK.same("19 i below 0", x.order(1, -1), -1);
        CHECK.same("19 far", x.order(Lanes.MIN, Lanes.MIN), -1);
        LaidDownTheLane down = Lanes.of("g400;");
        CHECK.same("19 a range ahead of down", down.order(0, 0), -1);
        CHECK.same("19 nine ahead of down", down.order(511, 0), -1);
        CHECK.same("19 down", down.order(1, 0), -3);
    }

    private static void round() {
        CHECK.same("20 one", Lanes.of("g253;").round(), 1);
        CHECK.same("20 three", new LaidDownTheLane().round(), 3);
        CHECK.same("20 three hold no more than 90", Lanes.of("g091;").round(), 3);
        CHECK.same("20 five", Lanes.of("g090;").round(), 5);
        CHECK.same("20 three round the corner", Lanes.of("g150;a11;").round(), 3);
        CHECK.same("20 those cut already count", Lanes.of("g150;c0010;c0110;").round(), 3);
        CHECK.same("20 never", Lanes.of("g000;").round(), -4);
        CHECK.same("20 not to the lane", Lanes.of("w0215;").round(), -4);
        CHECK.same("20 to the lane there", Lanes.of("w0215;a02;").round(), 1);
        CHECK.same("20 beside the lane", Lanes.of("w0215;a01;").round(), -4);
    }

    private static void moreOn() {
        CHECK.same("21 neither", new LaidDownTheLane().moreOn(), 0);
        CHECK.same("21 upward", Lanes.of("w1010;").moreOn(), 1);
        CHECK.same("21 downward", Lanes.of("w0210;").moreOn(), 2);
        CHECK.same("21 upward round the corner", Lanes.of("w0910;a11;").moreOn(), 1);
        CHECK.same("21 downward round the corner", Lanes.of("w0110;a11;").moreOn(), 2);
        CHECK.same("21 of several the least", Lanes.of("g000;c0010;c0110;c1110;").moreOn(), 0);
    }

    private static void down() {
        LaidDownTheLane x = Lanes.of("g400;");
        CHECK.same("16 down", x.canCut(), -3);
        CHECK.same("17 down", x.weakest(), -3);
        CHECK.same("18 down", x.forLane(), -3);
        CHECK.same("20 down", x.round(), -3);
        CHECK.same("21 down", x.moreOn(), -3);
    }
}
