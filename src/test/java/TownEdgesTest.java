/** The boundary cases that the terms and promises 1 to 11 name; each method stands for one sentence. */
public final class TownEdgesTest {
    private static final Check CHECK = new Check("TownEdgesTest");
    // At MINUTE 6 SIDE 0 holds 90 only, and presses 91.
    private static final String PROPPED = "g091;c0021;c0121;c1121;";
    private static final String[] STATEMENTS = {"c0000;", "l0000;", "w0000;", "g150;", "h140;", "a00;", "o00000;", "f;",
        "n01;"};

    public static void main(String[] args) {
        alikeRound();
        pressesBothEnds();
        pressesCutTowardZero();
        downByLean();
        downByWind();
        downByText();
        heightAndLaneNeverFell();
        downOnlyANewFootChanges();
        everyByteOfAStatement();
        everyLackingEnd();
        everyDigitTooMany();
        everyNumbersEnds();
        fullText();
        kindOneAheadOfKindTwo();
        statementsInTurn();
        textFallsBehindItsWholeStatement();
        textMinutesTillDown();
        textRoomBehindOthers();
        minutesUpTo999();
        oneMinute();
        shortestAndLongestBurn();
        lightCountsNoneAndAll();
        anewWhileStanding();
        cellsRefusalsInOrder();
        laysRefusalsInOrder();
        CHECK.end();
    }

    // "SIDES 0 .. 11, round"; "ALIKE ... (100 or 106 with itself)"
    private static void alikeRound() {
        int[] even = {100, 90, 50, 0, -50, -90, -100, -90, -50, 0, 50, 90};
        for (int s = 0; s < 12; s++) {
            LaidDownTheLane x = Lanes.of("g000;l" + Lanes.two(s) + "10;");
            CHECK.same("12 with itself " + s, x.presses(s), s % 3 == 0 ? 100 : 106);
            CHECK.same("12 with the one behind " + s, x.presses((s + 6) % 12), s % 3 == 0 ? -100 : -106);
            CHECK.same("12 with the one square upward " + s, x.presses((s + 3) % 12), 0);
            CHECK.same("12 with the one square downward " + s, x.presses((s + 9) % 12), 0);
            CHECK.same("12 with the next upward " + s, x.presses((s + 1) % 12), 90);
            CHECK.same("12 with the next downward " + s, x.presses((s + 11) % 12), 90);
        }
        for (int s = 0; s < 12; s += 3) {
            LaidDownTheLane x = Lanes.of("g000;l" + Lanes.two(s) + "10;");
            for (int k = 0; k < 12; k++) {
                CHECK.same("12 round from " + s + " by " + k, x.presses((s + k) % 12), even[k]);
            }
        }
        LaidDownTheLane askew = Lanes.of("g000;l0110;");
        CHECK.same("12 two askew round the corner", askew.presses(11), 56);
        CHECK.same("12 one askew and a straight one", askew.presses(3), 50);
        CHECK.same("12 two askew, apart", askew.presses(5), -56);
    }

    // "LEAN ... inches (0 .. 20)", "WIND ... miles (0 .. 20)", "WEIGHT (0 .. 400)" all at their ends
    private static void pressesBothEnds() {
        LaidDownTheLane x = Lanes.of("g140;l0120;w0120;");
        CHECK.same("12 the most of both", x.presses(1), 140 + 424);
        CHECK.same("12 the least of both", x.presses(7), 140 - 424);
        CHECK.same("14 the most", x.lacks(1), 564 - 352);
        CHECK.same("14 the least", x.lacks(7), -284 - 352);
        CHECK.same("12 the most WEIGHT", Lanes.of("g400;").presses(11), 400);
        CHECK.same("12 no WEIGHT", Lanes.of("g000;").presses(0), 0);
    }

    // "these two together by 10, cut toward 0"
    private static void pressesCutTowardZero() {
        LaidDownTheLane x = Lanes.of("g100;l0101;");
        CHECK.same("12 -56 by 10", x.presses(5), 95);
        CHECK.same("12 -106 by 10", x.presses(7), 90);
        CHECK.same("12 56 by 10", x.presses(11), 105);
        LaidDownTheLane y = Lanes.of("g100;l0101;w0701;");
        CHECK.same("12 106 less 106", y.presses(1), 100);
        LaidDownTheLane z = Lanes.of("g100;l0101;w0801;");
        CHECK.same("12 -90 and 106 together, not each", z.presses(1), 101);
        CHECK.same("12 -106 and 90 together, not each", z.presses(7), 99);
    }

    // "It is DOWN, too, as soon as it FALLS by anything told": LEAN
    private static void downByLean() {
        LaidDownTheLane x = Lanes.of("g200;c0010;l0005;");
        CHECK.same("6 250 against 252 stands", x.count(3), 0);
        CHECK.same("6 an inch more", x.set(1, 6), 5);
        CHECK.same("6 down by the inch", x.falls(), 0);
        LaidDownTheLane y = Lanes.of("g200;c0010;l0606;");
        CHECK.same("6 away from the gap it stands", y.count(3), 0);
        CHECK.same("6 the SIDE alone", y.set(0, 0), 6);
        CHECK.same("6 down by the SIDE", y.falls(), 0);
    }

    // "It is DOWN, too, as soon as it FALLS by anything told": WIND, WEIGHT
    private static void downByWind() {
        LaidDownTheLane x = Lanes.of("g200;c0010;w0005;");
        CHECK.same("6 a mile more", x.set(3, 6), 5);
        CHECK.same("6 down by the mile", x.count(3), 1);
        LaidDownTheLane y = Lanes.of("g200;c0010;w0606;");
        CHECK.same("6 the WIND's SIDE alone", y.set(2, 0), 6);
        CHECK.same("6 down by the WIND's SIDE", y.count(3), 1);
        LaidDownTheLane z = Lanes.of("g252;c0010;");
        CHECK.same("6 as much as it holds", z.count(3), 0);
        CHECK.same("6 one more", z.set(4, 253), 252);
        CHECK.same("6 down by WEIGHT", z.count(3), 1);
    }

    // "as soon as it FALLS by anything told or cut": by STATEMENTS
    private static void downByText() {
        String[] stand = {"l0005;", "w0005;", "g252;", "c0170;"};
        String[] fall = {"l0006;", "w0006;", "g253;", "c0110;"};
        for (int k = 0; k < 4; k++) {
            CHECK.same("2 it stands by " + stand[k], Lanes.of("g200;c0010;", stand[k]).count(3), 0);
            CHECK.same("2 it falls by " + fall[k], Lanes.of("g200;c0010;", fall[k]).count(3), 1);
        }
    }

    private static void heightAndLaneNeverFell() {
        LaidDownTheLane x = Lanes.of("g342;");
        x.set(5, 20);
        x.set(5, 200);
        x.set(6, 11);
        x.house(0, 0);
        x.light();
        CHECK.same("6 nothing that presses or holds", x.count(3), 0);
    }

    // "nothing changes it any more but a new FOOT (HOUSES may come)"
    private static void downOnlyANewFootChanges() {
        LaidDownTheLane x = Lanes.of(PROPPED + "l0200;w0300;f;n06;");
        x.keep(0, 1, 7, 0);
        int[] same = {2, 0, 3, 0, 91, 140, 0};
        for (int what = 0; what < 7; what++) {
            CHECK.same("6 even what it is " + what, x.set(what, same[what]), -3);
        }
        CHECK.same("4 down", x.cuts(5), -3);
        CHECK.same("5 down", x.lays(0, 5), -3);
        CHECK.same("9 down", x.light(), -3);
        CHECK.same("10 down", x.minutes(1), -3);
        for (String statement : STATEMENTS) {
            int due = statement.charAt(0) == 'o' ? 1 : -2000;
            CHECK.same("2 down " + statement, Lanes.tell(x, statement), due);
        }
        CHECK.same("7 HOUSES may come", x.house(1, 1), 1);
        int[] counts = {2, 6, 1, 1, 9, 81, 0, 140};
        for (int what = 0; what < 8; what++) {
            CHECK.same("39 as it fell " + what, x.count(what), counts[what]);
        }
        CHECK.same("11 a new FOOT", x.anew(), 0);
        CHECK.same("11 not down", x.falls(), -4);
        CHECK.same("4 it can be cut again", x.cuts(5), 0);
    }

    // "kind 1 the place of the first byte with which no TOWN can go on"
    private static void everyByteOfAStatement() {
        char[] wrong = {'x', '/', ':', ' ', '-', (char) 0, (char) 128, (char) 255};
        for (String statement : STATEMENTS) {
            for (int i = 0; i < statement.length(); i++) {
                for (char bad : wrong) {
                    String text = "a05;" + statement.substring(0, i) + bad + statement.substring(i + 1);
                    CHECK.same("2 byte " + i + " of " + statement + " is " + (int) bad, Lanes.fault(text), -1004 - i);
                }
            }
        }
        for (char letter = 0; letter < 256; letter++) {
            boolean known = "clwghaofn".indexOf(letter) >= 0;
            CHECK.same("2 letter " + (int) letter, Lanes.fault("" + letter), known ? -1001 : -1000);
        }
    }

    // "(the end, if something lacks)"; "STATEMENTS ... one at least"
    private static void everyLackingEnd() {
        CHECK.same("2 nothing at all", Lanes.fault(""), -1000);
        for (String statement : STATEMENTS) {
            for (int end = 1; end < statement.length(); end++) {
                CHECK.same("2 it ends " + end + " in " + statement, Lanes.fault(statement.substring(0, end)), -1000 - end);
                CHECK.same("2 then the second ends " + end + " in " + statement,
                    Lanes.fault("a05;" + statement.substring(0, end)), -1004 - end);
            }
        }
    }

    // "numbers in THE TEXT have just as many digits as told"
    private static void everyDigitTooMany() {
        for (String statement : STATEMENTS) {
            int end = statement.length() - 1;
            CHECK.same("2 a digit more in " + statement, Lanes.fault(statement.substring(0, end) + "0;"), -1000 - end);
            if (end > 1) {
                CHECK.same("2 a digit less in " + statement, Lanes.fault(statement.substring(0, end - 1) + ";"),
                    -1000 - (end - 1));
            }
        }
    }

    // kind 2 "a number out of range", each number at its ends and one beyond
    private static void everyNumbersEnds() {
        String[] fits = {"c0000;", "c1100;", "c0070;", "c0009;", "l0000;", "l1100;", "l0020;", "w0000;", "w1100;",
            "w0020;", "g000;", "g342;", "h020;", "h200;", "a00;", "a11;", "o00000;", "o11000;", "o00240;", "f;n01;",
            "f;n99;"};
        for (String text : fits) {
            CHECK.same("2 it fits: " + text, Lanes.fault(text), text.charAt(0) == 'f' ? 2 : 1);
        }
        CHECK.same("2 the most WEIGHT fits", Lanes.fault("g400;"), 1);
        String[] beyond = {"c1200;", "c0080;", "l1200;", "l0021;", "w1200;", "w0021;", "g401;", "h019;", "h201;",
            "a12;", "o12000;", "o00241;"};
        for (String text : beyond) {
            CHECK.same("2 one beyond: " + text, Lanes.fault(text), -2000);
        }
        CHECK.same("2 no MINUTES go by", Lanes.fault("f;n00;"), -2002);
    }

    // A ROW has at most 100 elements
    private static void fullText() {
        String lanes = "a00;a01;a02;a03;a04;a05;a06;a07;a08;a09;a10;a11;";
        String full = lanes + lanes + "a07;";
        CHECK.same("2 a hundred bytes", Lanes.fault(full), 25);
        CHECK.same("2 all of them came", Lanes.of(full).count(6), 7);
        CHECK.same("2 the hundredth lacks", Lanes.fault(full.substring(0, 99)), -1099);
        CHECK.same("2 the hundredth is another", Lanes.fault(full.substring(0, 99) + "0"), -1099);
        CHECK.same("2 the place ahead of it", Lanes.fault(full.substring(0, 98) + ";;"), -1098);
        CHECK.same("2 the end of a hundred", Lanes.fault(full.substring(0, 96) + "g150"), -1100);
        CHECK.same("2 the last STATEMENT can't be done", Lanes.fault(full.substring(0, 96) + "a12;"), -2096);
    }

    // "else kind 2"
    private static void kindOneAheadOfKindTwo() {
        CHECK.same("2 kind 1 at the end", Lanes.fault("a12;n01;f;f;g400;h100;x"), -1022);
        CHECK.same("2 kind 1 in the same STATEMENT", Lanes.fault("c99x0;"), -1003);
        CHECK.same("2 kind 1 while DOWN", Lanes.fault("g400;g400"), -1009);
    }

    // "STATEMENTS are tried one behind the other, each on what those ahead of it made"
    private static void statementsInTurn() {
        CHECK.same("2 not lit yet", Lanes.fault("n01;f;"), -2000);
        CHECK.same("2 lit ahead of it", Lanes.fault("f;n01;"), 2);
        CHECK.same("2 the first that can't be done", Lanes.fault("a05;a12;c1200;"), -2004);
        CHECK.same("2 a CELL twice", Lanes.of("c0029;c0010;").cell(0, 0), 1);
        CHECK.same("2 the later one is", Lanes.of("h020;h199;").count(7), 199);
        CHECK.same("2 held by what came ahead", Lanes.fault("c0070;g350;"), 2);
        CHECK.same("2 too heavy ahead of it", Lanes.fault("g350;c0070;"), -2005);
        LaidDownTheLane lit = new LaidDownTheLane();
        lit.light();
        CHECK.same("2 lit by a call already", Lanes.tell(lit, "a05;f;"), -2004);
        CHECK.same("2 its MINUTES go by", Lanes.tell(lit, "n07;"), 1);
    }

    private static void textFallsBehindItsWholeStatement() {
        // Half told, the SIDE with the old inches would be a fall; the two come together.
        LaidDownTheLane x = Lanes.of("g200;c0010;l0606;");
        CHECK.same("2 SIDE and inches together", Lanes.tell(x, "l0005;a01;"), 2);
        LaidDownTheLane y = Lanes.of("g200;c0010;w0606;");
        CHECK.same("2 SIDE and miles together", Lanes.tell(y, "w0005;a01;"), 2);
    }

    // "they go by" "till it FALLS", and "nothing changes it any more ... (HOUSES may come)"
    private static void textMinutesTillDown() {
        LaidDownTheLane x = new LaidDownTheLane();
        String text = PROPPED + "f;n99;o00001;";
        CHECK.same("2 the MINUTES that are left are none", Lanes.tell(x, text), 7);
        CHECK.same("2 the MINUTE of the FALL", x.count(1), 6);
        CHECK.same("2 the HOUSE behind it", x.count(0), 1);
        CHECK.same("2 no MINUTES more", Lanes.fault(text + "n01;"), -2000 - text.length());
        CHECK.same("2 five stand", Lanes.fault(PROPPED + "f;n05;n01;"), 7);
        CHECK.same("2 the sixth was it", Lanes.fault(PROPPED + "f;n05;n01;n01;"), -2000 - PROPPED.length() - 10);
    }

    // kind 2 "no room": HOUSES "(6 at most)"
    private static void textRoomBehindOthers() {
        LaidDownTheLane x = Lanes.of("o00000;o01000;o02000;o03000;o04000;");
        CHECK.same("2 the seventh", Lanes.tell(x, "a05;o05000;o06000;"), -2011);
        CHECK.same("2 nor the sixth came", x.count(0), 5);
        CHECK.same("2 nor the LANE", x.count(6), 0);
        CHECK.same("2 the sixth", Lanes.tell(x, "o05000;"), 1);
        CHECK.same("2 there is no room", Lanes.tell(x, "o06000;"), -2000);
        CHECK.same("7 there is no room", x.house(6, 0), -2);
        CHECK.same("8 the last one", x.about(5, 0), 5);
    }

    // "MINUTE (0 at first; of the fire, 0 .. 999)"
    private static void minutesUpTo999() {
        LaidDownTheLane x = Lanes.of("f;n99;n99;n99;n99;n99;n99;n99;n99;n99;n59;");
        CHECK.same("10 at 950", x.count(1), 950);
        CHECK.same("10 to 1000", x.minutes(50), -3);
        CHECK.same("10 the most to 1049", x.minutes(99), -3);
        CHECK.same("2 to 1000", Lanes.tell(x, "n50;"), -2000);
        CHECK.same("10 none of them went by", x.count(1), 950);
        CHECK.same("2 to 999", Lanes.tell(x, "n49;"), 1);
        CHECK.same("10 at 999", x.minutes(1), -3);
        CHECK.same("2 at 999", Lanes.tell(x, "n01;"), -2000);
        CHECK.same("10 a range ahead of it", x.minutes(100), -1);
        CHECK.same("22 asked from there", x.will(0), -4);
        CHECK.same("11 anew from there", x.anew() + x.count(1), 0);
    }

    // "n MINUTES (1 .. 99) go by"
    private static void oneMinute() {
        LaidDownTheLane x = Lanes.of("f;");
        CHECK.same("10 none", x.minutes(0), -1);
        CHECK.same("10 one", x.minutes(1), 1);
        CHECK.same("10 ninety-nine", x.minutes(99), 100);
        CHECK.same("10 a hundred", x.minutes(100), -1);
        CHECK.same("10 the least number", x.minutes(Lanes.MIN), -1);
        CHECK.same("10 the greatest number", x.minutes(Lanes.MAX), -1);
    }

    // BURNS from 2 (OILED, FIGURE 0) to 44 (GREEN, FIGURE 9); "from the MINUTE on that is as much as it BURNS"
    private static void shortestAndLongestBurn() {
        LaidDownTheLane x = Lanes.of("g091;c0061;c0161;c1161;f;");
        CHECK.same("3 oiled ones burn", x.cell(0, 3), 3);
        CHECK.same("10 they bear at 2", x.minutes(2) + x.cell(0, 2), 3);
        CHECK.same("10 and fall at 3", x.minutes(99), 3);
        LaidDownTheLane y = Lanes.of("g091;c0039;c0139;c1139;f;n43;");
        CHECK.same("3 green ones bear at 43", y.cell(0, 2), 11);
        CHECK.same("10 and fall at 44", y.minutes(99), 44);
        LaidDownTheLane z = Lanes.of("c0060;f;");
        CHECK.same("3 FIGURE 0 burns", z.cell(0, 3), 2);
        CHECK.same("3 and bears nothing ahead of it", z.cell(0, 2), 0);
        CHECK.same("3 green FIGURE 0 bears", Lanes.of("c0030;f;n07;").cell(0, 2), 2);
        CHECK.same("3 till 8", Lanes.of("c0030;f;n08;").cell(0, 2), 0);
    }

    // light: "how many CELLS BURN"
    private static void lightCountsNoneAndAll() {
        CHECK.same("9 none", new LaidDownTheLane().light(), 0);
        String all = "g000;";
        for (int c = 0; c < 12; c++) {
            all += "c" + Lanes.two(c) + (c % 3 == 0 ? 2 : c % 3 == 1 ? 3 : 6) + c % 10 + ";";
        }
        CHECK.same("9 all twelve, FIGURE 0, too", Lanes.of(all).light(), 12);
    }

    // anew: "no FIRE, MINUTE 0, not DOWN (all else as it is)"
    private static void anewWhileStanding() {
        LaidDownTheLane x = Lanes.of("c0023;c0110;a03;o01001;f;n09;");
        CHECK.same("11 anew", x.anew(), 0);
        CHECK.same("11 no CELL is left", x.count(5), 108);
        CHECK.same("11 no FIRE", x.minutes(1), -3);
        CHECK.same("11 the HOUSE stays", x.about(0, 1), 1);
        CHECK.same("11 the LANE stays", x.count(6), 3);
        CHECK.same("9 lit again, none burns", x.light(), 0);
        CHECK.same("10 from 0 on", x.minutes(4), 4);
        LaidDownTheLane y = Lanes.of("g343;");
        CHECK.same("11 too heavy for BRICKS, too", y.anew(), 0);
        CHECK.same("11 DOWN by a new FOOT", y.count(3), 1);
        CHECK.same("11 to SIDE 0", y.falls(), 0);
    }

    private static void cellsRefusalsInOrder() {
        LaidDownTheLane x = new LaidDownTheLane();
        int[] bad = {-1, 12, Lanes.MIN, Lanes.MAX};
        for (int c : bad) {
            for (int what = 0; what < 4; what++) {
                CHECK.same("3 no CELL " + c, x.cell(c, what), -1);
            }
            CHECK.same("4 no CELL " + c, x.cuts(c), -1);
            CHECK.same("7 no SIDE " + c, x.house(c, 0), -1);
        }
        CHECK.same("3 the last CELL", x.cell(11, 2), 9);
        CHECK.same("4 the last CELL", x.cuts(11), 0);
        CHECK.same("4 the first CELL", x.cuts(0), 0);
    }

    // "Answers of several REFUSALS are the first one as they are told": lays -1, -11, -12, -3
    private static void laysRefusalsInOrder() {
        LaidDownTheLane x = Lanes.of("g400;");
        x.row(0, Lanes.BYTES, 1);
        x.keep(1, 1, 0, 0);
        CHECK.same("5 no CELL ahead of a ROW", x.lays(0, 12), -1);
        CHECK.same("5 no CELL ahead of nothing", x.lays(2, -1), -1);
        CHECK.same("5 no CELL ahead of DOWN", x.lays(1, 12), -1);
        CHECK.same("5 no SHELF ahead of DOWN", x.lays(8, 0), -1);
        CHECK.same("5 nothing ahead of DOWN", x.lays(2, 0), -11);
        CHECK.same("5 a ROW ahead of DOWN", x.lays(0, 0), -12);
        CHECK.same("5 DOWN", x.lays(1, 0), -3);
    }
}
