/** Promises 37 to 39: the image, what is told. */
public final class ImageTest {
    private static final Check CHECK = new Check("ImageTest");

    public static void main(String[] args) {
        none();
        restored();
        shelvesStay();
        restoredFromDown();
        restoredToDown();
        counts();
        CHECK.end();
    }

    private static void none() {
        LaidDownTheLane x = new LaidDownTheLane();
        CHECK.same("38 none", x.restore(), -3);
        CHECK.same("37 minute 0", x.image(), 0);
        CHECK.same("38 now there is", x.restore(), 0);
    }

    private static void restored() {
        LaidDownTheLane x = Lanes.of("g100;c0236;l0201;w0302;h100;a07;o05005;f;n07;");
        CHECK.same("37 the minute", x.image(), 7);
        x.minutes(3);
        x.cuts(9);
        x.house(1, 1);
        int[] other = {1, 3, 5, 5, 120, 50, 2};
        for (int what = 0; what < 7; what++) {
            x.set(what, other[what]);
        }
        CHECK.same("38 the minute", x.restore(), 7);
        int[] told = {2, 1, 3, 2, 100, 100, 7};
        for (int what = 0; what < 7; what++) {
            CHECK.same("38 told " + what, x.set(what, told[what]), told[what]);
        }
        int[] counts = {1, 7, 1, 0, 12, 11 * 9 + 8, 7, 100};
        for (int what = 0; what < 8; what++) {
            CHECK.same("38 count " + what, x.count(what), counts[what]);
        }
        CHECK.same("38 a cell", x.cell(9, 0), 0);
        CHECK.same("38 another", x.cell(2, 0) * 10 + x.cell(2, 1), 36);
        CHECK.same("38 it burns", x.cell(2, 3), 32);
        CHECK.same("38 a house", x.about(0, 0) * 10 + x.about(0, 1), 55);
        CHECK.same("38 no other", x.about(1, 0), -1);
        x.anew();
        CHECK.same("38 the image stays", x.restore(), 7);
        CHECK.same("38 lit again", x.count(2), 1);
        x.minutes(1);
        CHECK.same("37 a later one", x.image(), 8);
        x.minutes(5);
        CHECK.same("38 is the one", x.restore(), 8);
        CHECK.same("38 the fire goes on", x.minutes(2), 10);
    }

    private static void shelvesStay() {
        LaidDownTheLane x = new LaidDownTheLane();
        x.keep(0, 1, 2, 4);
        Lanes.fill(x, 1, Lanes.INTS, 5, 6);
        x.image();
        x.keep(0, 1, 3, 4);
        x.put(1, 0, 50);
        x.row(2, 0, 1);
        x.restore();
        CHECK.same("38 a kind stays as it is", x.cost(0), 5);
        CHECK.same("38 a row stays as it is", Lanes.element(x, 1, 0), 50);
        CHECK.same("38 a new one stays", Lanes.element(x, 2, 0), 0);
    }

    private static void restoredFromDown() {
        LaidDownTheLane x = new LaidDownTheLane();
        x.image();
        x.set(4, 400);
        CHECK.same("38 from down", x.restore(), 0);
        CHECK.same("38 it stands", x.falls(), -4);
        CHECK.same("38 not down", x.count(3), 0);
        CHECK.same("38 it can be told again", x.set(4, 151), 150);
    }

    private static void restoredToDown() {
        LaidDownTheLane x = Lanes.of("g091;c0021;c0121;c1121;f;n09;");
        CHECK.same("37 while down", x.image(), 6);
        x.anew();
        x.set(6, 4);
        CHECK.same("38 to down", x.restore(), 6);
        CHECK.same("38 fallen there", x.falls(), 0);
        CHECK.same("38 down", x.cuts(4), -3);
    }

    private static void counts() {
        LaidDownTheLane x = Lanes.of("g091;c0024;c0061;c0342;o00010;o00020;a05;h077;c0070;f;n02;");
        int[] due = {2, 2, 1, 0, 12, 11 + 4 + 10 * 9, 5, 77};
        for (int what = 0; what < 8; what++) {
            CHECK.same("39 count " + what, x.count(what), due[what]);
        }
        CHECK.same("39 others below", x.count(-1), -1);
        CHECK.same("39 others above", x.count(8), -1);
        CHECK.same("39 far", x.count(Lanes.MIN), -1);
        LaidDownTheLane y = Lanes.of("g100;c0023;c0120;c0230;");
        CHECK.same("39 a prop of 0 bears nothing", y.count(4), 11);
        CHECK.same("39 all bears", y.count(5), 3 + 2 + 81);
        y.light();
        y.minutes(8);
        CHECK.same("39 one is burnt", y.count(4), 10);
        CHECK.same("39 all bears then", y.count(5), 84);
        y.minutes(5);
        CHECK.same("39 down", y.count(3), 1);
        CHECK.same("39 at the minute", y.count(1), 10);
        CHECK.same("39 lit still", y.count(2), 1);
        CHECK.same("39 as it fell", y.count(4), 9);
        CHECK.same("39 all bears as it fell", y.count(5), 81);
    }
}
