/** Promises 22 to 28: fires, winds. */
public final class FiresWindsTest {
    private static final Check CHECK = new Check("FiresWindsTest");
    // At MINUTE 6 SIDE 0 holds 90 only, and presses 91.
    private static final String PROPPED = "g091;c0021;c0121;c1121;";

    public static void main(String[] args) {
        will();
        thick();
        winds();
        anyWind();
        unlike();
        unlikeMany();
        wedge();
        sits();
        refusals();
        CHECK.end();
    }

    private static void will() {
        LaidDownTheLane x = Lanes.of(PROPPED);
        CHECK.same("22 minutes", x.will(0), 6);
        CHECK.same("22 side", x.will(1), 0);
        CHECK.same("22 no fire is lit by asking", x.count(2), 0);
        x.light();
        x.minutes(4);
        CHECK.same("22 from now", x.will(0), 2);
        CHECK.same("22 no minutes go by", x.count(1), 4);
        CHECK.same("22 so it does", x.minutes(9), 6);
        CHECK.same("22 never", new LaidDownTheLane().will(0), -4);
        CHECK.same("22 nowhere", new LaidDownTheLane().will(1), -4);
        LaidDownTheLane green = Lanes.of("g091;c0039;c0139;c1139;");
        CHECK.same("22 the longest", green.will(0), 44);
        LaidDownTheLane late = Lanes.of("f;n99;n99;n99;n99;n99;n99;n99;n99;n99;n99;");
        CHECK.same("22 near the last minute", late.will(0), -4);
    }

    private static void thick() {
        // The OILED one is gone at 11; the CELLS cut hold till their PROPS are burnt.
        LaidDownTheLane x = Lanes.of("g090;c0269;c0010;c0110;c1110;");
        CHECK.same("23 it stands now", x.thick(0), 1);
        CHECK.same("23 the latest", x.thick(1), 9);
        CHECK.same("23 nothing is propped", x.cell(0, 0), 1);
        x.set(6, 1);
        CHECK.same("23 not to the lane", x.thick(1), -4);
        LaidDownTheLane y = Lanes.of("g090;c0229;c0010;c0110;c1110;");
        CHECK.same("23 of several the least", y.thick(1), 1);
        y.light();
        y.minutes(13);
        CHECK.same("23 as late as all of them", y.thick(1), 1);
        // Only CELL 0 is cut: propped, it holds SIDE 0 behind the oiled ones' end.
        LaidDownTheLane z = Lanes.of("g091;c0010;c0169;c1169;");
        CHECK.same("23 the first cell is propped, too", z.thick(1), 9);
        CHECK.same("23 none cut", new LaidDownTheLane().thick(0), 1);
        CHECK.same("23 never falls", new LaidDownTheLane().thick(1), -4);
    }

    private static void winds() {
        LaidDownTheLane x = Lanes.of(PROPPED + "w0600;");
        CHECK.same("24 only in still air", x.winds(0), 1);
        CHECK.same("24 0 the greatest", x.winds(1), 0);
        x.set(2, 0);
        CHECK.same("24 all", x.winds(0), 21);
        CHECK.same("24 20 the greatest", x.winds(1), 20);
        CHECK.same("24 the wind is as it was", x.set(3, 0), 0);
        LaidDownTheLane y = Lanes.of("g000;");
        CHECK.same("24 none", y.winds(0), 0);
        CHECK.same("24 none is greatest", y.winds(1), -4);
        LaidDownTheLane z = Lanes.of("w0304;a03;");
        CHECK.same("24 it falls now from 20 on", z.winds(0), 1);
        CHECK.same("24 that is it", z.winds(1), 20);
    }

    private static void anyWind() {
        LaidDownTheLane x = Lanes.of(PROPPED);
        CHECK.same("25 all above", x.anyWind(0), 1);
        CHECK.same("25 all below", x.anyWind(1), 1);
        x.set(3, 1);
        CHECK.same("25 seven above", x.anyWind(0), 7);
        CHECK.same("25 seven below", x.anyWind(1), 12);
        CHECK.same("25 the wind is as it was", x.set(2, 0), 0);
        LaidDownTheLane none = new LaidDownTheLane();
        CHECK.same("25 none above", none.anyWind(0), 0);
        CHECK.same("25 none below", none.anyWind(1), 1);
    }

    private static void unlike() {
        // The PROPS at 0 and 6 are gone at 4, 6 or 8; it falls to the one that goes first, to 0 if both do.
        LaidDownTheLane x = Lanes.of("g095;c0110;c1110;c0510;c0710;c0021;c0621;");
        CHECK.same("26 above", x.unlike(0), 2);
        CHECK.same("26 below", x.unlike(1), 3);
        x.set(6, 6);
        CHECK.same("26 the other side above", x.unlike(0), 1);
        CHECK.same("26 the other side below", x.unlike(1), 3);
        x.set(6, 3);
        CHECK.same("26 never above", x.unlike(0), 0);
        CHECK.same("26 never below", x.unlike(1), 1);
        CHECK.same("26 they burn as they did", x.cell(0, 3), 6);
        LaidDownTheLane always = Lanes.of(PROPPED);
        CHECK.same("26 always above", always.unlike(0), 1);
        CHECK.same("26 always below", always.unlike(1), 1);
        LaidDownTheLane bricks = new LaidDownTheLane();
        CHECK.same("26 nothing burns above", bricks.unlike(0), 0);
        CHECK.same("26 nothing burns below", bricks.unlike(1), 1);
        // BURNS 4, a third of it (cut) 1: 3, 4, 5 against 6, 8, 10 of the other.
        LaidDownTheLane thirds = Lanes.of("g095;c0110;c1110;c0510;c0710;c0062;c0622;");
        CHECK.same("26 the oiled one first", thirds.unlike(0), 1);
        CHECK.same("26 always", thirds.unlike(1), 1);
        // 3, 4, 5 against 4, 6, 8: at 0 alike falls to 0; only 5 against 4 goes to 6.
        LaidDownTheLane close = Lanes.of("g095;c0110;c1110;c0510;c0710;c0062;c0621;");
        CHECK.same("26 eight of nine above", close.unlike(0), 8);
        CHECK.same("26 eight of nine below", close.unlike(1), 9);
    }

    private static void unlikeMany() {
        LaidDownTheLane x = Lanes.of("g000;c0021;c0131;c0261;c0321;c0421;c0521;");
        CHECK.same("26 six may burn", x.unlike(1), 1);
        x.keep(0, 1, 2, 0);
        x.lays(0, 6);
        CHECK.same("26 seven may not", x.unlike(0), -1000000003L);
        CHECK.same("26 a range ahead of seven", x.unlike(2), -1000000001L);
        x.light();
        x.minutes(9);
        CHECK.same("26 burnt ones are such, too", x.unlike(0), -1000000003L);
    }

    private static void wedge() {
        CHECK.same("27 none helps all four", new LaidDownTheLane().wedge(), -4);
        CHECK.same("27 against the wind's fall", Lanes.of("w0010;").wedge(), 0);
        CHECK.same("27 at the last", Lanes.of("w1110;").wedge(), 11);
        CHECK.same("27 in place of what is cut", Lanes.of("c0810;").wedge(), 8);
        CHECK.same("27 of several the least", Lanes.of("g000;c0310;c0410;").wedge(), 3);
        CHECK.same("27 none that is a wedge", Lanes.of("w0005;c0070;c0170;c1170;c0270;c1070;").wedge(), -4);
        LaidDownTheLane x = Lanes.of("c0810;");
        x.wedge();
        CHECK.same("27 no wedge is driven", x.cell(8, 0), 1);
    }

    private static void sits() {
        CHECK.same("28 three", new LaidDownTheLane().sits(), 3);
        CHECK.same("28 one", Lanes.of("g253;").sits(), 1);
        CHECK.same("28 the next upward", Lanes.of("g253;a01;").sits(), 2);
        CHECK.same("28 those cut are skipped", Lanes.of("c0110;").sits(), 2);
        CHECK.same("28 a prop that bears nothing is not", Lanes.of("c0120;").sits(), 3);
        CHECK.same("28 the second upward ahead of the second downward", Lanes.of("g090;").sits(), 4);
        CHECK.same("28 never", Lanes.of("g000;").sits(), -4);
        CHECK.same("28 round to the one behind", Lanes.of("g000;l0601;").sits(), 12);
        LaidDownTheLane x = new LaidDownTheLane();
        CHECK.same("28 nothing is cut", x.sits() + x.count(4), 15);
        x.light();
        CHECK.same("28 lit", x.sits(), -3);
        CHECK.same("28 down", Lanes.of("g400;").sits(), -3);
    }

    private static void refusals() {
        LaidDownTheLane x = new LaidDownTheLane();
        LaidDownTheLane down = Lanes.of("g400;");
        int[] none = {-1, 2, Lanes.MIN, Lanes.MAX};
        for (int what : none) {
            CHECK.same("22 no such " + what, x.will(what), -1);
            CHECK.same("23 no such " + what, x.thick(what), -1);
            CHECK.same("24 no such " + what, x.winds(what), -1);
            CHECK.same("25 no such " + what, x.anyWind(what), -1000000001L);
            CHECK.same("26 no such " + what, x.unlike(what), -1000000001L);
            CHECK.same("22 ahead of down " + what, down.will(what), -1);
            CHECK.same("23 ahead of down " + what, down.thick(what), -1);
            CHECK.same("24 ahead of down " + what, down.winds(what), -1);
            CHECK.same("25 ahead of down " + what, down.anyWind(what), -1000000001L);
            CHECK.same("26 ahead of down " + what, down.unlike(what), -1000000001L);
        }
        for (int what = 0; what < 2; what++) {
            CHECK.same("22 down " + what, down.will(what), -3);
            CHECK.same("23 down " + what, down.thick(what), -3);
            CHECK.same("24 down " + what, down.winds(what), -3);
            CHECK.same("25 down " + what, down.anyWind(what), -1000000003L);
            CHECK.same("26 down " + what, down.unlike(what), -1000000003L);
        }
        CHECK.same("27 down", down.wedge(), -3);
    }
}
