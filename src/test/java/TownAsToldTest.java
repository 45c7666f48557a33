/** Promises 1 to 11: the town as told. */
public final class TownAsToldTest {
    private static final Check CHECK = new Check("TownAsToldTest");

    public static void main(String[] args) {
        newObject();
        townTells();
        townRefuses();
        townCannotGoOn();
        townCannotBeDone();
        townAfterCalls();
        townDown();
        cellTellsKinds();
        cellNow();
        cuts();
        lays();
        sets();
        setsRanges();
        houses();
        lights();
        minutesPass();
        minutesEnd();
        anew();
        CHECK.end();
    }

    private static void newObject() {
        LaidDownTheLane x = new LaidDownTheLane();
        for (int c = 0; c < 12; c++) {
            CHECK.same("1 kind", x.cell(c, 0), 0);
            CHECK.same("1 figure", x.cell(c, 1), 0);
            CHECK.same("1 bears", x.cell(c, 2), 9);
            CHECK.same("1 burns", x.cell(c, 3), -4);
        }
        int[] told = {0, 0, 0, 0, 150, 140, 0};
        for (int what = 0; what < 7; what++) {
            CHECK.same("1 told " + what, x.set(what, told[what]), told[what]);
        }
        int[] counts = {0, 0, 0, 0, 12, 108, 0, 140};
        for (int what = 0; what < 8; what++) {
            CHECK.same("1 count " + what, x.count(what), counts[what]);
        }
        for (int d = 0; d < 8; d++) {
            CHECK.same("1 shelf " + d, x.cost(d), -11);
        }
        CHECK.same("1 stands", x.falls(), -4);
        CHECK.same("1 no image", x.restore(), -3);
    }

    private static void townTells() {
        LaidDownTheLane x = new LaidDownTheLane();
        CHECK.same("2 all kinds", Lanes.tell(x, "c1125;l0302;w0907;g120;h200;a11;o05240;f;n03;"), 9);
        CHECK.same("2 c kind", x.cell(11, 0), 2);
        CHECK.same("2 c figure", x.cell(11, 1), 5);
        CHECK.same("2 f", x.count(2), 1);
        CHECK.same("2 n", x.count(1), 3);
        CHECK.same("2 o side", x.about(0, 0), 5);
        CHECK.same("2 o far", x.about(0, 1), 240);
        int[] told = {3, 2, 9, 7, 120, 200, 11};
        int[] less = {3, 2, 9, 7, 120, 200, 11};
        for (int what = 0; what < 7; what++) {
            CHECK.same("2 told " + what, x.set(what, less[what]), told[what]);
        }
        CHECK.same("2 one statement", Lanes.tell(x, "o00000;"), 1);
        CHECK.same("2 the text stays", x.town(7), 1);
        CHECK.same("2 its houses come again", x.count(0), 3);
        CHECK.same("2 the row stays", Lanes.element(x, 7, 0), 'o');
        CHECK.same("2 edges upward", Lanes.fault("c0079;l1120;l1100;w1100;w1020;g000;h200;h020;a11;o11240;"), 10);
        CHECK.same("2 most minutes", Lanes.fault("f;n99;n01;"), 3);
    }

    private static void townRefuses() {
        LaidDownTheLane x = new LaidDownTheLane();
        CHECK.same("2 no shelf below", x.town(-1), -1);
        CHECK.same("2 no shelf above", x.town(8), -1);
        CHECK.same("2 far shelf", x.town(Lanes.MIN), -1);
        CHECK.same("2 nothing", x.town(0), -11);
        x.keep(0, 1, 2, 3);
        CHECK.same("2 a kind", x.town(0), -12);
        x.row(0, Lanes.SHORTS, 2);
        CHECK.same("2 shorts", x.town(0), -12);
        x.row(0, Lanes.INTS, 2);
        CHECK.same("2 ints", x.town(0), -12);
    }

    private static void townCannotGoOn() {
        String[] texts = {"", ";", "x", "C0100;", "c", "c0", "c01a3;", "c010", "c0101", "c0101x", "c01010;",
            "g15;", "g1500;", "g150;;", "f", "f1;", "f;f", "l0101;w01", "a0", "n1;", "o0010;", "o001000;",
            "g401;x", "f;f;n", "g150; ", "h140;g15:;", "c01/1;"};
        int[] places = {0, 0, 0, 0, 1, 2, 3, 4, 5, 5, 5,
            3, 4, 5, 1, 1, 3, 9, 2, 2, 5, 6,
            5, 5, 5, 8, 3};
        for (int k = 0; k < texts.length; k++) {
            CHECK.same("2 kind 1 of " + texts[k], Lanes.fault(texts[k]), -1000 - places[k]);
        }
        LaidDownTheLane x = new LaidDownTheLane();
        Lanes.fill(x, 0, Lanes.BYTES, 'g', '1', '0', '0', ';', -103);
        CHECK.same("2 a byte below 0", x.town(0), -1005);
        CHECK.same("2 with a fault nothing comes", x.set(4, 150), 150);
        Lanes.fill(x, 0, Lanes.BYTES, 'f', ';', 0);
        CHECK.same("2 a zero byte", x.town(0), -1002);
        CHECK.same("2 no fire came", x.count(2), 0);
    }

    private static void townCannotBeDone() {
        String[] texts = {"c1200;", "c9900;", "c0080;", "c0090;", "l1200;", "l0021;", "w1200;", "w0021;", "g401;",
            "g999;", "h019;", "h201;", "h000;", "a12;", "o12000;", "o00241;", "n01;", "f;f;", "f;n00;",
            "g100;h100;c0080;a12;", "f;n99;n99;n99;n99;n99;n99;n99;n99;n99;n99;n10;",
            "o00000;o00000;o00000;o00000;o00000;o00000;o00000;", "a11;c0029;l0099;"};
        int[] places = {0, 0, 0, 0, 0, 0, 0, 0, 0,
            0, 0, 0, 0, 0, 0, 0, 0, 2, 2,
            10, 42, 42, 10};
        for (int k = 0; k < texts.length; k++) {
            CHECK.same("2 kind 2 of " + texts[k], Lanes.fault(texts[k]), -2000 - places[k]);
        }
        CHECK.same("2 minutes to 999", Lanes.fault("f;n99;n99;n99;n99;n99;n99;n99;n99;n99;n99;n09;"), 12);
        LaidDownTheLane x = new LaidDownTheLane();
        CHECK.same("2 the second is wrong", Lanes.tell(x, "a05;c0329;o01020;l0111;w0101;g140;h100;f;n02;a12;"), -2045);
        CHECK.same("2 no lane came", x.count(6), 0);
        CHECK.same("2 no cell came", x.cell(3, 0), 0);
        CHECK.same("2 no house came", x.count(0), 0);
        CHECK.same("2 no fire came", x.count(2), 0);
        CHECK.same("2 no minutes came", x.count(1), 0);
        CHECK.same("2 no height came", x.count(7), 140);
        CHECK.same("2 no lean came", x.presses(1), 150);
    }

    private static void townAfterCalls() {
        LaidDownTheLane x = new LaidDownTheLane();
        x.set(3, 2);
        x.house(3, 4);
        x.cuts(5);
        x.light();
        x.minutes(7);
        CHECK.same("2 behind other calls", Lanes.tell(x, "a04;n02;o00009;"), 3);
        CHECK.same("2 minutes more", x.count(1), 9);
        CHECK.same("2 a house more", x.count(0), 2);
        CHECK.same("2 the wind stays", x.set(3, 2), 2);
        CHECK.same("2 the cut stays", x.cell(5, 0), 1);
        x.house(5, 5);
        CHECK.same("2 a fault behind a house", Lanes.tell(x, "o00009;o00009;o00009;o00009;"), -2021);
        CHECK.same("2 the houses stay", x.count(0), 3);
    }

    private static void townDown() {
        CHECK.same("2 houses may come while down", Lanes.fault("g400;o00010;o01010;"), 3);
        String[] rest = {"c0100;", "l0000;", "w0000;", "g150;", "h100;", "a00;", "f;", "n01;"};
        for (String text : rest) {
            CHECK.same("2 down already " + text, Lanes.fault("g400;o00010;" + text), -2012);
        }
        LaidDownTheLane x = Lanes.of("g100;c0021;c0121;c1121;f;n10;o00001;");
        CHECK.same("2 minutes go by till it is down", x.count(1), 6);
        CHECK.same("2 it is down", x.count(3), 1);
        CHECK.same("2 to the side", x.falls(), 0);
        CHECK.same("2 fire lit while down", Lanes.tell(x, "f;"), -2000);
    }

    private static void cellTellsKinds() {
        LaidDownTheLane x = Lanes.of("g000;");
        for (int f = 0; f <= 9; f++) {
            int[] bears = {9, 0, f, f + 2, 4, 9 - f / 3, f, 11};
            int[] burns = {-4, -4, 4 + 2 * f, 8 + 4 * f, -4, -4, 2 + f, -4};
            for (int kind = 0; kind < 8; kind++) {
                x.keep(1, 1, kind, f);
                x.lays(1, kind);
                CHECK.same("3 kind", x.cell(kind, 0), kind);
                CHECK.same("3 figure of kind " + kind, x.cell(kind, 1), f);
                CHECK.same("3 bears of kind " + kind + " figure " + f, x.cell(kind, 2), bears[kind]);
                CHECK.same("3 burns of kind " + kind + " figure " + f, x.cell(kind, 3), burns[kind]);
            }
        }
        CHECK.same("3 frosted 8", Lanes.of("c0058;").cell(0, 2), 7);
        CHECK.same("3 no cell below", x.cell(-1, 0), -1);
        CHECK.same("3 no cell above", x.cell(12, 0), -1);
        CHECK.same("3 no such what below", x.cell(0, -1), -1);
        CHECK.same("3 no such what above", x.cell(0, 4), -1);
        CHECK.same("3 far", x.cell(Lanes.MAX, Lanes.MIN), -1);
    }

    private static void cellNow() {
        LaidDownTheLane x = Lanes.of("g000;c0021;c0132;c0263;c0323;f;");
        int[] burns = {6, 16, 5, 10};
        int[] bears = {1, 4, 3, 3};
        for (int minute = 0; minute <= 17; minute++) {
            for (int c = 0; c < 4; c++) {
                CHECK.same("3 bears at " + minute, x.cell(c, 2), minute >= burns[c] ? 0 : bears[c]);
                CHECK.same("3 burns as told", x.cell(c, 3), burns[c]);
            }
            CHECK.same("3 bricks do not burn", x.cell(5, 2), 9);
            x.minutes(1);
        }
        x.keep(0, 1, 2, 6);
        x.lays(0, 5);
        CHECK.same("3 a prop laid too late bears nothing", x.cell(5, 2), 0);
        x.keep(0, 1, 2, 9);
        x.lays(0, 5);
        CHECK.same("3 a thick one still does", x.cell(5, 2), 9);
    }

    private static void cuts() {
        LaidDownTheLane x = Lanes.of("c0369;g100;");
        CHECK.same("4 the kind it was", x.cuts(3), 6);
        CHECK.same("4 it is cut", x.cell(3, 0), 1);
        CHECK.same("4 figure 0", x.cell(3, 1), 0);
        CHECK.same("4 bears nothing", x.cell(3, 2), 0);
        CHECK.same("4 cut again", x.cuts(3), 1);
        CHECK.same("4 no cell below", x.cuts(-1), -1);
        CHECK.same("4 no cell above", x.cuts(12), -1);
        CHECK.same("4 a brick", x.cuts(2), 0);
        CHECK.same("4 it stands", x.count(3), 0);
        CHECK.same("4 cut till it falls", x.cuts(4), 0);
        CHECK.same("4 it is down", x.count(3), 1);
        CHECK.same("4 to the middle", x.falls(), 3);
        CHECK.same("4 down", x.cuts(5), -3);
        CHECK.same("4 no such cell first", x.cuts(12), -1);
        CHECK.same("4 nothing changes", x.cell(5, 0), 0);
    }

    private static void lays() {
        LaidDownTheLane x = Lanes.of("c0452;");
        x.keep(2, 1, 3, 7);
        CHECK.same("5 the kind it was", x.lays(2, 4), 5);
        CHECK.same("5 kind", x.cell(4, 0), 3);
        CHECK.same("5 figure", x.cell(4, 1), 7);
        CHECK.same("5 it stays on the shelf", x.lays(2, 11), 0);
        CHECK.same("5 in both cells", x.cell(11, 2), 9);
        x.keep(2, 1, 7, 1);
        CHECK.same("5 the cell keeps what came", x.cell(11, 0), 3);
        CHECK.same("5 no shelf below", x.lays(-1, 0), -1);
        CHECK.same("5 no shelf above", x.lays(8, 0), -1);
        CHECK.same("5 no cell below", x.lays(2, -1), -1);
        CHECK.same("5 no cell above", x.lays(2, 12), -1);
        CHECK.same("5 nothing", x.lays(3, 0), -11);
        CHECK.same("5 no cell ahead of nothing", x.lays(3, 12), -1);
        x.row(3, 0, 1);
        CHECK.same("5 a row", x.lays(3, 0), -12);
        x.keep(4, 1, 1, 0);
        CHECK.same("5 a cut comes", x.lays(4, 0), 0);
        x.lays(4, 1);
        CHECK.same("5 it stands on the one beside", x.falls(), -4);
        CHECK.same("5 the last one comes", x.lays(4, 11), 3);
        CHECK.same("5 it falls by what is laid", x.count(3), 1);
        LaidDownTheLane y = Lanes.of("c0010;c0110;g170;");
        y.keep(4, 1, 2, 0);
        CHECK.same("5 laid till it falls", y.lays(4, 11), 0);
        CHECK.same("5 it is down", y.count(3), 1);
        CHECK.same("5 down", y.lays(4, 2), -3);
        CHECK.same("5 nothing ahead of down", y.lays(5, 2), -11);
        y.row(5, 0, 1);
        CHECK.same("5 a row ahead of down", y.lays(5, 2), -12);
    }

    private static void sets() {
        LaidDownTheLane x = new LaidDownTheLane();
        int[] first = {7, 3, 8, 4, 100, 99, 10};
        int[] before = {0, 0, 0, 0, 150, 140, 0};
        for (int what = 0; what < 7; what++) {
            CHECK.same("6 what it was " + what, x.set(what, first[what]), before[what]);
        }
        for (int what = 0; what < 7; what++) {
            CHECK.same("6 what it is " + what, x.set(what, first[what]), first[what]);
        }
        CHECK.same("6 the lane", x.count(6), 10);
        CHECK.same("6 the height", x.count(7), 99);
        CHECK.same("6 lean and wind press", x.presses(7), 100 + (106 * 3 + 90 * 4) / 10);
        LaidDownTheLane y = new LaidDownTheLane();
        y.set(2, 4);
        y.set(3, 18);
        CHECK.same("6 it stands", y.falls(), -4);
        CHECK.same("6 the wind brings it down", y.set(3, 20), 18);
        CHECK.same("6 down to the wind", y.falls(), 4);
        for (int what = 0; what < 7; what++) {
            CHECK.same("6 down " + what, y.set(what, 20), what == 0 || what == 2 || what == 6 ? -1 : -3);
        }
        CHECK.same("6 a range ahead of down", y.set(4, 401), -1);
    }

    private static void setsRanges() {
        int[] least = {0, 0, 0, 0, 0, 20, 0};
        int[] most = {11, 20, 11, 20, 400, 200, 11};
        for (int what = 0; what < 7; what++) {
            LaidDownTheLane x = new LaidDownTheLane();
            CHECK.same("6 below " + what, x.set(what, least[what] - 1), -1);
            CHECK.same("6 above " + what, x.set(what, most[what] + 1), -1);
            CHECK.same("6 far above " + what, x.set(what, Lanes.MAX), -1);
            CHECK.same("6 far below " + what, x.set(what, Lanes.MIN), -1);
            CHECK.same("6 the least " + what, x.set(what, least[what]) < 0 ? 1 : 0, 0);
            CHECK.same("6 the most " + what, x.set(what, most[what]), least[what]);
        }
        CHECK.same("6 no such what", new LaidDownTheLane().set(7, 0), -1);
        CHECK.same("6 no such what below", new LaidDownTheLane().set(-1, 0), -1);
    }

    private static void houses() {
        LaidDownTheLane x = new LaidDownTheLane();
        CHECK.same("8 no house yet", x.about(0, 0), -1);
        for (int h = 0; h < 6; h++) {
            CHECK.same("7 its number", x.house(2 * h + 1, 40 * h + 40), h);
        }
        for (int h = 0; h < 6; h++) {
            CHECK.same("8 side", x.about(h, 0), 2 * h + 1);
            CHECK.same("8 distance", x.about(h, 1), 40 * h + 40);
        }
        CHECK.same("7 no room", x.house(0, 0), -2);
        CHECK.same("7 a range ahead of room", x.house(12, 0), -1);
        CHECK.same("7 still six", x.count(0), 6);
        CHECK.same("8 no such house", x.about(6, 0), -1);
        CHECK.same("8 no such house below", x.about(-1, 0), -1);
        CHECK.same("8 no such what", x.about(0, 2), -1);
        CHECK.same("8 no such what below", x.about(0, -1), -1);
        LaidDownTheLane y = new LaidDownTheLane();
        CHECK.same("7 no side above", y.house(12, 0), -1);
        CHECK.same("7 no side below", y.house(-1, 0), -1);
        CHECK.same("7 too far", y.house(0, 241), -1);
        CHECK.same("7 below 0", y.house(0, -1), -1);
        CHECK.same("7 none came", y.count(0), 0);
        CHECK.same("7 the least", y.house(0, 0), 0);
        CHECK.same("7 the most", y.house(11, 240), 1);
        y.set(4, 400);
        CHECK.same("7 while down", y.house(4, 5), 2);
        CHECK.same("8 while down", y.about(2, 1), 5);
    }

    private static void lights() {
        LaidDownTheLane x = Lanes.of("c0020;c0231;c0462;c0543;c0754;c0975;");
        CHECK.same("9 cells that burn", x.light(), 3);
        CHECK.same("9 it is lit", x.count(2), 1);
        CHECK.same("9 lit already", x.light(), -3);
        CHECK.same("9 none burns", new LaidDownTheLane().light(), 0);
        LaidDownTheLane y = Lanes.of("g400;");
        CHECK.same("9 down", y.light(), -3);
        CHECK.same("9 not lit", y.count(2), 0);
    }

    private static void minutesPass() {
        LaidDownTheLane x = new LaidDownTheLane();
        CHECK.same("10 not lit", x.minutes(1), -3);
        CHECK.same("10 no minutes", x.minutes(0), -1);
        CHECK.same("10 below 0", x.minutes(-1), -1);
        CHECK.same("10 too many", x.minutes(100), -1);
        CHECK.same("10 far", x.minutes(Lanes.MAX), -1);
        x.light();
        CHECK.same("10 one", x.minutes(1), 1);
        CHECK.same("10 most", x.minutes(99), 100);
        for (int k = 2; k <= 9; k++) {
            x.minutes(99);
            x.minutes(1);
        }
        CHECK.same("10 above 999", x.minutes(99) + x.minutes(1), 999 - 3);
        CHECK.same("10 to 999", x.count(1), 999);
        CHECK.same("10 none left", x.minutes(99), -3);
        CHECK.same("10 nothing changes", x.count(1), 999);
    }

    private static void minutesEnd() {
        // PROPS of FIGURE 1 bear 1 till MINUTE 6; then SIDE 0 is held by 9 * 100 / 10 = 90.
        LaidDownTheLane x = Lanes.of("g090;c0021;c0121;c1121;f;");
        CHECK.same("10 it stands on what is left", x.minutes(6), 6);
        CHECK.same("10 not down", x.count(3), 0);
        LaidDownTheLane y = Lanes.of("g091;c0021;c0121;c1121;f;");
        CHECK.same("10 it stands till then", y.minutes(5), 5);
        CHECK.same("10 not down yet", y.falls(), -4);
        CHECK.same("10 it ends as it falls", y.minutes(20), 6);
        CHECK.same("10 down", y.count(3), 1);
        CHECK.same("10 to the side", y.falls(), 0);
        CHECK.same("10 down, no more", y.minutes(1), -3);
        CHECK.same("10 a range ahead of down", y.minutes(0), -1);
        CHECK.same("10 the minute stays", y.count(1), 6);
    }

    private static void anew() {
        LaidDownTheLane x = Lanes.of("g091;c0021;c0121;c1121;l0200;w0300;h100;a07;o05005;f;n06;");
        CHECK.same("11 down before", x.count(3), 1);
        CHECK.same("11 anew", x.anew(), 0);
        for (int c = 0; c < 12; c++) {
            CHECK.same("11 bricks", x.cell(c, 0) + x.cell(c, 1), 0);
            CHECK.same("11 bears", x.cell(c, 2), 9);
            CHECK.same("11 burns", x.cell(c, 3), -4);
        }
        int[] counts = {1, 0, 0, 0, 12, 108, 7, 100};
        for (int what = 0; what < 8; what++) {
            CHECK.same("11 count " + what, x.count(what), counts[what]);
        }
        CHECK.same("11 stands", x.falls(), -4);
        int[] told = {2, 0, 3, 0, 91, 100, 7};
        for (int what = 0; what < 7; what++) {
            CHECK.same("11 all else as it is " + what, x.set(what, told[what]), told[what]);
        }
        x.set(4, 400);
        CHECK.same("11 down again", x.anew(), 0);
        CHECK.same("11 by a new foot, too", x.count(3), 1);
    }
}
