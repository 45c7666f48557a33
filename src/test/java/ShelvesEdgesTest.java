/** The boundary cases that the terms and promises 37 to 46 name; each method stands for one sentence. */
public final class ShelvesEdgesTest {
    private static final Check CHECK = new Check("ShelvesEdgesTest");
    private static final int[] NO_SHELF = {-1, 8, Lanes.MIN, Lanes.MAX};

    public static void main(String[] args) {
        imageOfAll();
        imageTakenTwice();
        restoreWithoutImage();
        restoredShelvesStay();
        restoredMinutes();
        countOthers();
        allShelvesAtFirst();
        noSuchShelf();
        keepNothing();
        keepEnds();
        rowSizes();
        rowRefusalsInOrder();
        lowestBits();
        putRefusalsInOrder();
        elementThrows();
        copyWholeRows();
        copyNone();
        copyRefusalsInOrder();
        copySizes();
        costEnds();
        tossNone();
        takenStaysThere();
        CHECK.end();
    }

    // "all that there is, but SHELVES (and THE IMAGE); RESTORED all is as it was then"
    private static void imageOfAll() {
        LaidDownTheLane x = Lanes.of("o00001;o01002;o02003;o03004;o04005;o05006;l0102;w0203;g100;h100;a03;c1129;f;n05;");
        CHECK.same("37 its MINUTE", x.image(), 5);
        x.anew();
        CHECK.same("2 another town", Lanes.tell(x, "l0000;w0000;g200;h200;a00;c0010;"), 6);
        CHECK.same("38 its MINUTE", x.restore(), 5);
        for (int h = 0; h < 6; h++) {
            CHECK.same("38 HOUSE " + h, x.about(h, 0) * 1000 + x.about(h, 1), h * 1000 + h + 1);
        }
        CHECK.same("38 CELL 11", x.cell(11, 0) * 10 + x.cell(11, 1), 29);
        CHECK.same("38 CELL 0", x.cell(0, 0), 0);
        int[] told = {1, 2, 2, 3, 100, 100, 3};
        for (int what = 0; what < 7; what++) {
            CHECK.same("38 told " + what, x.set(what, told[what]), told[what]);
        }
        CHECK.same("38 lit", x.count(2), 1);
        LaidDownTheLane few = new LaidDownTheLane();
        few.image();
        few.house(1, 1);
        few.restore();
        CHECK.same("38 the HOUSE is gone", few.count(0), 0);
        CHECK.same("7 the next is 0 again", few.house(2, 2), 0);
    }

    private static void imageTakenTwice() {
        LaidDownTheLane x = new LaidDownTheLane();
        x.set(6, 1);
        x.image();
        x.set(6, 2);
        x.restore();
        x.restore();
        CHECK.same("38 the same twice", x.count(6), 1);
        x.set(6, 3);
        x.image();
        x.set(6, 4);
        x.restore();
        CHECK.same("37 the later one", x.count(6), 3);
    }

    // restore: "-3 there is none"
    private static void restoreWithoutImage() {
        LaidDownTheLane x = Lanes.of("a05;o00001;f;n03;");
        CHECK.same("38 none", x.restore(), -3);
        CHECK.same("38 the LANE stays", x.count(6), 5);
        CHECK.same("38 the HOUSE stays", x.count(0), 1);
        CHECK.same("38 the MINUTE stays", x.count(1), 3);
        CHECK.same("38 none again", x.restore(), -3);
    }

    // "when THE IMAGE is RESTORED, SHELVES stay as they are"
    private static void restoredShelvesStay() {
        LaidDownTheLane x = new LaidDownTheLane();
        for (int d = 0; d < 8; d++) {
            x.row(d, Lanes.INTS, 1);
        }
        x.image();
        x.keep(0, 0, 0, 0);
        x.keep(1, 1, 7, 9);
        x.row(2, Lanes.BYTES, 2);
        x.put(3, 0, 33);
        x.restore();
        CHECK.same("38 nothing", x.cost(0), -11);
        CHECK.same("38 a KIND", x.cost(1), 18);
        CHECK.same("38 a longer ROW", Lanes.element(x, 2, 1), 0);
        CHECK.same("38 an element", Lanes.element(x, 3, 0), 33);
    }

    private static void restoredMinutes() {
        LaidDownTheLane x = Lanes.of("f;n99;n99;n99;n99;n99;n99;n99;n99;n99;n99;n09;");
        CHECK.same("37 the last MINUTE", x.image(), 999);
        x.anew();
        CHECK.same("38 the last MINUTE", x.restore(), 999);
        CHECK.same("10 none is left", x.minutes(1), -3);
        x.set(4, 400);
        CHECK.same("37 DOWN at that MINUTE", x.image(), 999);
        x.anew();
        x.set(4, 150);
        x.restore();
        CHECK.same("38 DOWN again", x.count(3), 1);
    }

    // count: "-1 for others"
    private static void countOthers() {
        LaidDownTheLane x = new LaidDownTheLane();
        int[] others = {-1, 8, 9, Lanes.MIN, Lanes.MAX};
        for (int what : others) {
            CHECK.same("39 no such " + what, x.count(what), -1);
        }
        CHECK.same("39 the first", x.count(0), 0);
        CHECK.same("39 the last", x.count(7), 140);
    }

    // "SHELVES 0 .. 7 each hold nothing (at first)"
    private static void allShelvesAtFirst() {
        LaidDownTheLane x = new LaidDownTheLane();
        for (int d = 0; d < 8; d++) {
            CHECK.same("2 nothing " + d, x.town(d), -11);
            CHECK.same("5 nothing " + d, x.lays(d, 0), -11);
            CHECK.same("33 nothing " + d, x.fell(d), -11);
            CHECK.same("34 nothing " + d, x.forged(d), -11);
            CHECK.same("35 nothing " + d, x.judge(d), -11);
            CHECK.same("42 nothing " + d, x.put(d, 0, 0), -11);
            CHECK.same("43 nothing " + d, Lanes.element(x, d, 0), -102);
            CHECK.same("44 nothing " + d, x.copy(d, 0, d, 0, 0), -11);
            CHECK.same("45 nothing " + d, x.cost(d), -11);
            CHECK.same("46 nothing " + d, x.toss(d), -11);
        }
        for (int d = 0; d < 8; d++) {
            x.row(d, Lanes.INTS, 1);
            x.put(d, 0, d + 10);
        }
        for (int d = 0; d < 8; d++) {
            CHECK.same("43 each its own " + d, Lanes.element(x, d, 0), d + 10);
        }
    }

    private static void noSuchShelf() {
        LaidDownTheLane x = new LaidDownTheLane();
        x.row(0, Lanes.BYTES, 1);
        for (int d : NO_SHELF) {
            CHECK.same("2 " + d, x.town(d), -1);
            CHECK.same("5 " + d, x.lays(d, 0), -1);
            CHECK.same("40 " + d, x.keep(d, 0, 0, 0), -1);
            CHECK.same("40 a KIND " + d, x.keep(d, 1, 0, 0), -1);
            CHECK.same("41 " + d, x.row(d, 0, 0), -1);
            CHECK.same("42 " + d, x.put(d, 0, 0), -1);
            CHECK.same("43 " + d, Lanes.element(x, d, 0), -101);
            CHECK.same("44 from " + d, x.copy(d, 0, 0, 0, 1), -1);
            CHECK.same("44 to " + d, x.copy(0, 0, d, 0, 1), -1);
            CHECK.same("45 " + d, x.cost(d), -1);
            CHECK.same("46 " + d, x.toss(d), -1);
        }
    }

    // "keep(d, 0, ..): k, figure do not matter"
    private static void keepNothing() {
        LaidDownTheLane x = new LaidDownTheLane();
        int[] any = {-1, 0, 8, 10, Lanes.MIN, Lanes.MAX};
        for (int k : any) {
            for (int figure : any) {
                x.keep(0, 1, 2, 4);
                CHECK.same("40 nothing", x.keep(0, 0, k, figure), 0);
                CHECK.same("40 is held", x.cost(0), -11);
            }
        }
        CHECK.same("40 nothing in place of nothing", x.keep(0, 0, 0, 0), 0);
    }

    // "KINDS: 0 .. 7", "a FIGURE (0 .. 9)"
    private static void keepEnds() {
        LaidDownTheLane x = new LaidDownTheLane();
        x.row(0, Lanes.BYTES, 1);
        CHECK.same("40 KIND -1", x.keep(0, 1, -1, 0), -1);
        CHECK.same("40 KIND 8", x.keep(0, 1, 8, 0), -1);
        CHECK.same("40 FIGURE -1", x.keep(0, 1, 0, -1), -1);
        CHECK.same("40 FIGURE 10", x.keep(0, 1, 0, 10), -1);
        CHECK.same("40 what -1", x.keep(0, -1, 0, 0), -1);
        CHECK.same("40 what 2", x.keep(0, 2, 0, 0), -1);
        CHECK.same("40 the ROW stays", Lanes.element(x, 0, 0), 0);
        CHECK.same("40 KIND 0, FIGURE 0", x.keep(0, 1, 0, 0), 0);
        CHECK.same("40 KIND 7, FIGURE 9", x.keep(7, 1, 7, 9), 0);
        x.lays(7, 11);
        CHECK.same("5 KIND 7, FIGURE 9", x.cell(11, 0) * 10 + x.cell(11, 1), 79);
    }

    // "0 .. 100 elements, 0 at first"
    private static void rowSizes() {
        LaidDownTheLane x = new LaidDownTheLane();
        for (int sort = 0; sort < 3; sort++) {
            CHECK.same("41 none", x.row(0, sort, 0), 0);
            CHECK.same("42 has no place", x.put(0, 0, 1), -13);
            CHECK.same("41 one", x.row(0, sort, 1), 0);
            CHECK.same("42 has a place", x.put(0, 0, 1), 0);
            CHECK.same("42 not two", x.put(0, 1, 1), -13);
            CHECK.same("41 a hundred", x.row(0, sort, 100), 0);
            for (int i = 0; i < 100; i++) {
                CHECK.same("41 0 at first", Lanes.element(x, 0, i), 0);
            }
            CHECK.same("43 no more", Lanes.element(x, 0, 100), -102);
        }
    }

    // row: "-1 (n above 100); -14"
    private static void rowRefusalsInOrder() {
        LaidDownTheLane x = new LaidDownTheLane();
        x.keep(0, 1, 2, 4);
        CHECK.same("41 101", x.row(0, 0, 101), -1);
        CHECK.same("41 -1", x.row(0, 0, -1), -14);
        CHECK.same("41 the least number", x.row(0, 2, Lanes.MIN), -14);
        CHECK.same("41 the greatest number", x.row(0, 2, Lanes.MAX), -1);
        CHECK.same("41 SORT -1", x.row(0, -1, 1), -1);
        CHECK.same("41 SORT 3", x.row(0, 3, 1), -1);
        CHECK.same("41 no SORT ahead of -14", x.row(0, 3, -1), -1);
        CHECK.same("41 no SHELF ahead of -14", x.row(-1, 0, -1), -1);
        CHECK.same("41 the KIND stays", x.cost(0), 6);
    }

    // "what is put in keeps its lowest bits"
    private static void lowestBits() {
        int[] put = {127, 128, 255, 256, -128, -129, 32767, 32768, 65535, 65536, -32768, -32769, Lanes.MAX, Lanes.MIN};
        int[] bytes = {127, -128, -1, 0, -128, 127, -1, 0, -1, 0, 0, -1, -1, 0};
        int[] shorts = {127, 128, 255, 256, -128, -129, 32767, -32768, -1, 0, -32768, 32767, -1, 0};
        LaidDownTheLane x = new LaidDownTheLane();
        for (int sort = 0; sort < 3; sort++) {
            x.row(sort, sort, 1);
            for (int k = 0; k < put.length; k++) {
                CHECK.same("42 put " + put[k], x.put(sort, 0, put[k]), 0);
                int due = sort == 0 ? bytes[k] : sort == 1 ? shorts[k] : put[k];
                CHECK.same("42 SORT " + sort + " keeps of " + put[k], Lanes.element(x, sort, 0), due);
            }
        }
    }

    // put: "-1, -11, -12, -13"
    private static void putRefusalsInOrder() {
        LaidDownTheLane x = new LaidDownTheLane();
        x.keep(1, 1, 2, 4);
        x.row(2, Lanes.BYTES, 3);
        CHECK.same("42 no SHELF ahead of no place", x.put(8, -1, 0), -1);
        CHECK.same("42 nothing ahead of no place", x.put(0, -1, 0), -11);
        CHECK.same("42 a KIND ahead of no place", x.put(1, -1, 0), -12);
        CHECK.same("42 place -1", x.put(2, -1, 0), -13);
        CHECK.same("42 place 3 of 3", x.put(2, 3, 0), -13);
        CHECK.same("42 place 2 of 3", x.put(2, 2, 5), 0);
        CHECK.same("42 the least number", x.put(2, Lanes.MIN, 0), -13);
        CHECK.same("42 the greatest number", x.put(2, Lanes.MAX, 0), -13);
        CHECK.same("43 what was put", Lanes.element(x, 2, 2), 5);
    }

    // "IllegalArgumentException: no such SHELF; IllegalStateException: no ROW, no such place"
    private static void elementThrows() {
        LaidDownTheLane x = new LaidDownTheLane();
        x.keep(1, 1, 2, 4);
        x.row(2, Lanes.BYTES, 1);
        x.row(3, Lanes.BYTES, 0);
        CHECK.same("43 no SHELF", Lanes.element(x, 8, 0), -101);
        CHECK.same("43 no SHELF below", Lanes.element(x, -1, 0), -101);
        CHECK.same("43 no SHELF, no place", Lanes.element(x, 8, -1), -101);
        CHECK.same("43 nothing", Lanes.element(x, 0, 0), -102);
        CHECK.same("43 a KIND", Lanes.element(x, 1, 0), -102);
        CHECK.same("43 place -1", Lanes.element(x, 2, -1), -102);
        CHECK.same("43 place 1 of 1", Lanes.element(x, 2, 1), -102);
        CHECK.same("43 place 0 of none", Lanes.element(x, 3, 0), -102);
        CHECK.same("43 place 0 of 1", Lanes.element(x, 2, 0), 0);
    }

    private static void copyWholeRows() {
        LaidDownTheLane x = new LaidDownTheLane();
        x.row(0, Lanes.SHORTS, 100);
        x.row(7, Lanes.SHORTS, 100);
        x.put(0, 0, 11);
        x.put(0, 99, 99);
        CHECK.same("44 a hundred", x.copy(0, 0, 7, 0, 100), 100);
        CHECK.same("44 the first", Lanes.element(x, 7, 0), 11);
        CHECK.same("44 the last", Lanes.element(x, 7, 99), 99);
        CHECK.same("44 the last to the first", x.copy(0, 99, 7, 0, 1), 1);
        CHECK.same("44 it came", Lanes.element(x, 7, 0), 99);
        CHECK.same("44 onto itself", x.copy(0, 0, 0, 0, 100), 100);
        CHECK.same("44 101", x.copy(0, 0, 7, 0, 101), -13);
        CHECK.same("44 a hundred from 1 on", x.copy(0, 1, 7, 0, 100), -13);
        CHECK.same("44 a hundred to 1 on", x.copy(0, 0, 7, 1, 100), -13);
    }

    private static void copyNone() {
        LaidDownTheLane x = new LaidDownTheLane();
        x.row(0, Lanes.BYTES, 0);
        x.row(1, Lanes.BYTES, 2);
        CHECK.same("44 none of none", x.copy(0, 0, 0, 0, 0), 0);
        CHECK.same("44 none from none", x.copy(0, 0, 1, 1, 0), 0);
        CHECK.same("44 one from none", x.copy(0, 0, 1, 1, 1), -13);
        CHECK.same("44 one to none", x.copy(1, 0, 0, 0, 1), -13);
        CHECK.same("44 none from a place too far", x.copy(1, 3, 1, 0, 0), -13);
        CHECK.same("44 none from below 0", x.copy(1, -1, 1, 0, 0), -13);
    }

    // copy: "-1, -11 (either), -12 (no ROWS of one SORT), -13"
    private static void copyRefusalsInOrder() {
        LaidDownTheLane x = new LaidDownTheLane();
        x.row(0, Lanes.BYTES, 2);
        x.row(1, Lanes.INTS, 2);
        x.keep(2, 1, 2, 4);
        CHECK.same("44 no SHELF ahead of nothing", x.copy(3, 0, 8, 0, 1), -1);
        CHECK.same("44 no SHELF ahead of a KIND", x.copy(8, 0, 2, 0, 1), -1);
        CHECK.same("44 nothing to, a KIND from", x.copy(2, 0, 3, 0, 1), -11);
        CHECK.same("44 nothing from, a KIND to", x.copy(3, 0, 2, 0, 1), -11);
        CHECK.same("44 nothing ahead of no place", x.copy(0, -1, 3, 0, 1), -11);
        CHECK.same("44 a KIND ahead of no place", x.copy(0, -1, 2, 0, 1), -12);
        CHECK.same("44 two KINDS", x.copy(2, 0, 2, 0, 0), -12);
        CHECK.same("44 another SORT ahead of no place", x.copy(0, -1, 1, 0, 1), -12);
        CHECK.same("44 another SORT, none", x.copy(1, 0, 0, 0, 0), -12);
        CHECK.same("44 no place", x.copy(0, -1, 0, 0, 1), -13);
    }

    // "-13 a place that isn't there (a number or a size that isn't as told, too)"
    private static void copySizes() {
        LaidDownTheLane x = new LaidDownTheLane();
        Lanes.fill(x, 0, Lanes.INTS, 1, 2, 3);
        int[] sizes = {-1, 4, Lanes.MIN, Lanes.MAX};
        for (int n : sizes) {
            CHECK.same("44 size " + n, x.copy(0, 0, 0, 0, n), -13);
            CHECK.same("44 size " + n + " from the end", x.copy(0, 3, 0, 3, n), -13);
            CHECK.same("44 from " + n, x.copy(0, n, 0, 0, 1), -13);
            CHECK.same("44 to " + n, x.copy(0, 0, 0, n, 1), -13);
        }
        for (int i = 0; i < 3; i++) {
            CHECK.same("44 nothing came " + i, Lanes.element(x, 0, i), i + 1);
        }
    }

    // COST at FIGURE 0 and 9
    private static void costEnds() {
        int[] none = {1, 5, 2, 1, 2, 6, 4, 9};
        int[] nine = {1, 5, 11, 10, 2, 6, 22, 18};
        LaidDownTheLane x = new LaidDownTheLane();
        for (int kind = 0; kind < 8; kind++) {
            x.keep(0, 1, kind, 0);
            CHECK.same("45 FIGURE 0, KIND " + kind, x.cost(0), none[kind]);
            x.keep(0, 1, kind, 9);
            CHECK.same("45 FIGURE 9, KIND " + kind, x.cost(0), nine[kind]);
        }
        x.row(0, Lanes.BYTES, 0);
        CHECK.same("45 a ROW", x.cost(0), -12);
        CHECK.same("46 a ROW", x.toss(0), -12);
    }

    // "-15: CUT ones, and any with FIGURE 0, have none"
    private static void tossNone() {
        int[] one = {1, -15, 101, 101, 1, 1, 206, 1};
        LaidDownTheLane x = new LaidDownTheLane();
        for (int kind = 0; kind < 8; kind++) {
            x.keep(0, 1, kind, 0);
            CHECK.same("46 FIGURE 0, KIND " + kind, x.toss(0), -15);
            x.keep(0, 1, kind, 1);
            CHECK.same("46 FIGURE 1, KIND " + kind, x.toss(0), one[kind]);
        }
        x.keep(0, 1, 1, 9);
        CHECK.same("46 CUT, FIGURE 9", x.toss(0), -15);
    }

    // "The ROW of a text, and what is taken from a SHELF, stay there"
    private static void takenStaysThere() {
        LaidDownTheLane x = new LaidDownTheLane();
        x.keep(0, 1, 6, 3);
        x.toss(0);
        x.lays(0, 0);
        x.cuts(0);
        CHECK.same("46 thrown, laid, cut: it stays", x.toss(0), 210);
        CHECK.same("5 it is laid again", x.lays(0, 0), 1);
        String text = "a05;x";
        CHECK.same("2 a text with a fault", Lanes.tell(x, text), -1004);
        for (int i = 0; i < text.length(); i++) {
            CHECK.same("2 it stays " + i, Lanes.element(x, 7, i), text.charAt(i));
        }
        CHECK.same("2 mended", x.put(7, 4, 'f') + x.town(7), -1005);
        CHECK.same("2 nothing of it came", x.count(6), 0);
    }
}
