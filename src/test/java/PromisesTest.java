/** The promises one by one, by numbers worked out by hand from the document. */
public final class PromisesTest {
    private static final Check CHECK = new Check();
    private static final int MIN = Integer.MIN_VALUE;
    private static final int MAX = Integer.MAX_VALUE;

    // STRENGTHS of WAVE 0: 0 0 0 / 2 3 2 / 4 5 4. In it flag 0 falls; flag 1 stands for good.
    private static final String BAY =
            "beach 3 3;row 555;row 212;row 101;flag 4 3 10;flag 0 9 1;wave 6;wave 3;swell 2 1 1";
    // All cells 9 high; a WAVE comes to the upper ones by 9, to the lower ones by 10.
    private static final String CLIFF = "beach 2 2;row 99;row 99;wave 20";
    // The flag's cell loses its last sand in WAVE 0.
    private static final String LOW = "beach 2 2;row 12;row 22;flag 0 9 10;wave 9";
    // By FORCE 4 the flag stands, by 6 it falls.
    private static final String SWELL = "beach 2 2;row 99;row 22;flag 2 3 7;wave 5;";

    private static void due(String call, int got, int want) {
        CHECK.due(call, got, want);
    }

    private static void promise1() {
        TideCastle x = new TideCastle();
        for (int what = 0; what <= 13; what++) {
            due("1: count(" + what + ")", x.count(what), what == 5 ? -1 : 0);
        }
        due("1: NONE", TideCastle.NONE, -1);
        due("1: rule of none", x.force(0), -2);
        due("1: undo", x.undo(), -2);
        due("1: back", x.back(0), -1);
    }

    private static void promise2() {
        TideCastle x = new TideCastle();
        for (int i = 1; i <= 20; i++) {
            due("2: feed " + i, x.feed(MIN, MAX, -1, 0, i), 20 * i);
        }
        due("2: feed of a full tape", x.feed(0, 0, 0, 0, 0), -1);
        due("2: bytes", x.count(13), 400);
        x.end(381);
        due("2: feed beyond 400", x.feed(0, 0, 0, 0, 0), -1);
        x.end(380);
        due("2: feed up to 400", x.feed(0, 0, 0, 0, 0), 400);
        x.end(0);
        // "beac" "h 2 " "2;wa" "ve 1" "7   ": the highest byte of each number first.
        due("2: feed of a text", x.feed(0x62656163, 0x68203220, 0x323b7761, 0x76652031, 0x37202020),
                20);
        due("2: beach of it", x.beach(), 4);
        due("2: its wave", x.forceOf(0), 17);
    }

    private static void promise3() {
        TideCastle x = new TideCastle();
        due("3: end(0) of an empty tape", x.end(0), 0);
        due("3: end(1) of an empty tape", x.end(1), -1);
        x.feed(0, 0, 0, 0, 0);
        due("3: end(-1)", x.end(-1), -1);
        due("3: end(MIN)", x.end(MIN), -1);
        due("3: end(21)", x.end(21), -1);
        due("3: end(MAX)", x.end(MAX), -1);
        due("3: nothing happened", x.count(13), 20);
        due("3: end(20)", x.end(20), 20);
        due("3: end(3)", x.end(3), 3);
        due("3: bytes", x.count(13), 3);
        due("3: end(4)", x.end(4), -1);
        due("3: feed goes on behind", x.feed(0, 0, 0, 0, 0), 23);
    }

    private static void promise4() {
        TideCastle x = Check.on(BAY, "take 0");
        x.seed(77);
        x.wave();
        x.log(0, 0, 5);
        due("4: acts", x.count(11), 1);
        due("4: a fault", Check.beach(x, "beach 2"), Check.fault(7, 0));
        due("4: all stays, cells", x.count(0) * 10 + x.count(1), 33);
        due("4: all stays, acts and logs", x.count(11) * 10 + x.count(10), 11);
        due("4: all stays, wave", x.count(6), 1);
        due("4: another beach", Check.beach(x, "beach 2 5;row 31"), 10);
        due("4: tape", x.count(13), 0);
        due("4: columns", x.count(0), 2);
        due("4: rows", x.count(1), 5);
        due("4: flags", x.count(2), 0);
        due("4: waves", x.count(3), 0);
        due("4: rules", x.count(4), 1);
        due("4: rule in force", x.count(5), 0);
        due("4: wave to come", x.count(6), 0);
        due("4: marks", x.count(7), 0);
        due("4: heights, those not told are 2", x.count(9), 4 + 8 * 2);
        due("4: logs", x.count(10), 0);
        due("4: acts", x.count(11), 0);
        due("4: x", x.count(12), 77);
        due("4: wet", x.cell(9, 1), 0);
        due("4: force without waves", x.forceOf(3), 5);
    }

    private static void promise5() {
        TideCastle x = new TideCastle();
        for (int i = 0; i < 6; i++) {
            due("5: rule " + i, Check.rule(x, "take " + i), i);
            due("5: tape", x.count(13), 0);
            due("5: fault", i < 5 ? Check.rule(x, "take") : Check.fault(4, 0), Check.fault(4, 0));
        }
        due("5: rules", x.count(4), 6);
        due("5: none in force", x.count(5), -1);
        due("5: a seventh", Check.rule(x, "take 1"), -1);
        due("5: nothing happens", x.count(13), 6);
        due("5: a seventh with a fault", Check.rule(x, "take"), -1);
        due("5: nothing happens", x.count(13), 4);
        due("5: rules", x.count(4), 6);
    }

    private static void promise6() {
        TideCastle x = Check.on(CLIFF);
        due("6: rule 0 without any", x.force(0), -2);
        Check.rule(x, "take 2");
        Check.rule(x, "take 3");
        due("6: none as yet", x.force(1), -1);
        due("6: rule 1 was", x.force(0), 1);
        due("6: rule 2", x.force(2), -2);
        due("6: rule -2", x.force(-2), -2);
        due("6: rule MAX", x.force(MAX), -2);
        due("6: rule MIN", x.force(MIN), -2);
        due("6: nothing happened", x.count(5), 0);
        due("6: by rule 0", x.ahead(0, 1, 0), 7);
        x.force(1);
        due("6: by rule 1", x.ahead(0, 1, 0), 6);
        due("6: rule 1 was", x.force(-1), 1);
        due("6: by none", x.ahead(0, 1, 0), 8);
    }

    private static void promise7() {
        TideCastle x = Check.on(BAY + ";flag 4 20 2");
        int[] heights = {5, 5, 5, 2, 1, 2, 1, 0, 1};
        int[] strengths = {0, 0, 0, 2, 3, 2, 4, 5, 4};
        for (int c = 0; c < 9; c++) {
            due("7: height of " + c, x.cell(c, 0), heights[c]);
            due("7: wet of " + c, x.cell(c, 1), 0);
            due("7: strength of " + c, x.cell(c, 3), strengths[c]);
        }
        due("7: flags of 4", x.cell(4, 2), 5);
        due("7: flags of 0", x.cell(0, 2), 2);
        due("7: flags of 1", x.cell(1, 2), 0);
        due("7: what 4", x.cell(0, 4), -1);
        due("7: what -1", x.cell(0, -1), -1);
        due("7: cell 9", x.cell(9, 0), -1);
        due("7: cell -1", x.cell(-1, 0), -1);
        due("7: cell MAX", x.cell(MAX, 3), -1);
        due("7: cell MIN", x.cell(MIN, 3), -1);
        due("7: without a beach", new TideCastle().cell(0, 0), -1);
        x.wave();
        due("7: wet of 2", x.cell(2, 1), 0);
        due("7: wet of 3", x.cell(3, 1), 1);
        due("7: flags of 4, all fallen", x.cell(4, 2), 0);
        // A FORCE of 3 comes to 4 cells, and 3 is not wet any longer.
        due("7: strength of 4", x.cell(4, 3), 1);
        x.wave();
        due("7: wet of 3", x.cell(3, 1), 0);
        due("7: wet of 4", x.cell(4, 1), 1);
    }

    /** Downhill nothing is won, and nothing is lost but 1 a cell. */
    private static void strengthOverHills() {
        TideCastle x = Check.on("beach 2 4;row 09;row 09;row 59;row 09;wave 9");
        int[] strengths = {0, 0, 1, 0, 2, 0, 8, 0};
        for (int c = 0; c < 8; c++) {
            due("7: strength over a hill in " + c, x.cell(c, 3), strengths[c]);
        }
    }

    private static void promise8() {
        TideCastle x = Check.on(BAY);
        due("8: cell", x.flag(0, 0), 4);
        due("8: stand", x.flag(0, 1), 3);
        due("8: mark", x.flag(0, 2), 10);
        due("8: stands", x.flag(0, 3), -1);
        due("8: flag 1", x.flag(1, 1), 9);
        due("8: what 4", x.flag(0, 4), -2);
        due("8: what -1", x.flag(0, -1), -2);
        due("8: flag 2", x.flag(2, 0), -2);
        due("8: flag -1", x.flag(-1, 0), -2);
        due("8: flag MAX", x.flag(MAX, 3), -2);
        due("8: flag MIN", x.flag(MIN, 3), -2);
        due("8: without a beach", new TideCastle().flag(0, 3), -2);
        x.wave();
        due("8: fell in 0", x.flag(0, 3), 0);
        due("8: its cell", x.flag(0, 0), 4);
        x.wave();
        x.give(1);
        due("8: was given up ahead of 2", x.flag(1, 3), 2);
    }

    private static void promise9() {
        TideCastle x = Check.on("beach 2 2;wave 0;wave 20;wave 7");
        int[] forces = {0, 20, 7};
        for (int w = 0; w < 20; w++) {
            due("9: forceOf(" + w + ")", x.forceOf(w), forces[w % 3]);
        }
        due("9: forceOf(MAX)", x.forceOf(MAX), forces[MAX % 3]);
        due("9: forceOf(-1)", x.forceOf(-1), -1);
        due("9: forceOf(MIN)", x.forceOf(MIN), -1);
        due("9: without a beach", new TideCastle().forceOf(0), -1);
        due("9: without waves", Check.on("beach 2 2").forceOf(998), 5);
    }

    private static void promise10() {
        TideCastle x = Check.on(BAY);
        due("10: wave 0", x.wave(), 6);
        int[] heights = {5, 5, 5, 2, 0, 2, 0, 0, 0};
        for (int c = 0; c < 9; c++) {
            due("10: height of " + c, x.cell(c, 0), heights[c]);
        }
        due("10: marks", x.count(7), 1);
        due("10: standing", x.count(8), 2);
        due("10: wave to come", x.count(6), 1);
        due("10: wave 1", x.wave(), 4);
        due("10: marks", x.count(7), 2);
        due("10: wave 2", x.wave(), 6);
        due("10: without a beach", new TideCastle().wave(), -1);
        TideCastle dry = Check.on("beach 2 2;row 00;row 11;flag 0 20 5;flag 2 20 3;wave 0;wave 2");
        due("10: of force 0 to none", dry.wave(), 0);
        due("10: on no sand a flag falls", dry.flag(0, 3), 0);
        due("10: marks of the other", dry.count(7), 3);
        due("10: of force 2 to none", dry.wave(), 0);
        due("10: marks of the other", dry.count(7), 6);
        TideCastle edge = Check.on("beach 2 2;row 99;row 11;flag 2 3 1;flag 3 2 1;wave 4;wave 5");
        due("10: strength 2", edge.wave(), 2);
        due("10: falls by its stand, no sand goes", edge.count(8) * 100 + edge.count(9), 120);
        edge.wave();
        due("10: strength 3", edge.count(8) * 100 + edge.count(9), 18);
    }

    private static int height(String beach, String rule, int cell, int waves) {
        return Check.on(beach, rule).ahead(cell, waves, 0);
    }

    private static void takes(String sum, int want) {
        due("10: take " + sum, 9 - height(CLIFF, "take " + sum, 0, 1), want);
    }

    private static void sums() {
        takes("0", 0);
        takes("3", 3);
        takes("4", 3);
        takes("99999", 3);
        takes("0-1", 0);
        takes("7/2", 3);
        takes("1/2", 0);
        takes("7%4", 3);
        takes("1/0", 0);
        takes("5%0+1", 1);
        takes("0-7/2+5", 2);
        takes("1+2*3-5", 2);
        takes("8-2-4", 2);
        takes("9/3/2", 1);
        takes("2*3%4", 2);
        takes("7%4*2-5", 1);
        takes("12/4%2", 1);
        long big = 99999L * 99999L * 99999L * 50000L;
        due("10: it goes round below 0", big < 0 ? 1 : 0, 1);
        takes("99999*99999*99999*50000", 0);
        takes("99999*99999*99999*50000/99999/99999/10000+1000", heldTo3(big / 99999 / 99999 / 10000 + 1000));
        takes("2-99999*99999*99999*50000%3", heldTo3(2 - big % 3));
        long[] tens = {10000, 10000, 10000, 10000, 10000};
        long round = 1;
        StringBuilder text = new StringBuilder("1");
        for (long ten : tens) {
            round *= ten;
            text.append("*").append(ten);
        }
        takes(text + "%7", heldTo3(round % 7));
    }

    private static int heldTo3(long sum) {
        return (int) Math.max(0, Math.min(3, sum));
    }

    private static void holds(String test, boolean want) {
        due("10: take 1 if " + test, 9 - height(CLIFF, "take 1 if " + test, 0, 1), want ? 1 : 0);
    }

    private static void tests() {
        holds("1<2", true);
        holds("2<2", false);
        holds("2<=2", true);
        holds("3<=2", false);
        holds("2=2", true);
        holds("2=3", false);
        holds("2>=2", true);
        holds("1>=2", false);
        holds("3>2", true);
        holds("2>2", false);
        holds("not 1=2", true);
        holds("not not 1=2", false);
        holds("1=1 or 1=2 and 1=3", true);
        holds("[1=1 or 1=2] and 1=3", false);
        holds("1=2 and 1=1 or 1=1", true);
        holds("1=2 and [1=1 or 1=1]", false);
        holds("not 1=1 or 1=1", true);
        holds("not [1=1 or 1=1]", false);
        holds("1=1 and not 1=2 and 1=1", true);
        holds("not 1=2 and 1=2", false);
        holds("1=2 or 1=3 or 1=1", true);
        holds("1=1 and [not [1=2 or 1=3] and 2=2]", true);
        holds("1+1=2*1 and 5-3>=7%5", true);
        String clauses = "take 2 if cell=0;take 1 if cell=1;take 3;take 0";
        due("10: first clause", height(CLIFF, clauses, 0, 1), 7);
        due("10: second clause", height(CLIFF, clauses, 1, 1), 8);
        due("10: third clause", height(CLIFF, clauses, 2, 1), 6);
        due("10: no clause", height(CLIFF, "take 3 if cell=9", 2, 1), 9);
    }

    private static void words() {
        String beach = "beach 2 2;row 67;row 89;flag 0 20 1;flag 0 20 1;flag 3 20 1;wave 20;wave 18";
        // By FORCE 20: cell 2 by 11, 3 by 10, 0 by 10, 1 by 9.
        String[] facts = {"cell=0 and height=6 and strength=10 and flags=2 and low=7 and high=8",
            "cell=1 and height=7 and strength=9 and flags=0 and low=6 and high=9",
            "cell=2 and height=8 and strength=11 and flags=0 and low=6 and high=9",
            "cell=3 and height=9 and strength=10 and flags=1 and low=7 and high=8"};
        for (int c = 0; c < 4; c++) {
            for (int at = 0; at < 4; at++) {
                due("10: " + facts[c], height(beach, "take 1 if " + facts[c], at, 1),
                        6 + at - (at == c ? 1 : 0));
            }
        }
        String turn = "take 1 if wave=0 and force=20 and wet=0;take 2 if wave=1 and force=18 and wet=1";
        due("10: wave, force, wet", height(beach, turn, 3, 1), 8);
        due("10: wave, force, wet", height(beach, turn, 3, 2), 6);
        due("10: wave, force, wet", height(beach, turn, 3, 3), 6);
        // All at once, by how all was ahead: each of the cells sees the other as it was.
        String both = "take low-height+1 if low>=height;take 1 if high<height";
        TideCastle x = Check.on("beach 2 2;row 22;row 33;wave 20", both);
        x.wave();
        due("10: all at once", x.count(9), 1 + 1 + 3 + 3);
    }

    private static void promise11() {
        TideCastle x = Check.on("beach 2 2;row 19;row 50");
        due("11: up from the first row", x.spade(0, 0), -1);
        due("11: to the left of column 0", x.spade(0, 3), -1);
        due("11: to 9", x.spade(0, 1), -1);
        due("11: down from the last row", x.spade(2, 2), -1);
        due("11: to the right of the last column", x.spade(1, 1), -1);
        due("11: without sand", x.spade(3, 0), -1);
        due("11: side 4", x.spade(1, 4), -1);
        due("11: side -1", x.spade(1, -1), -1);
        due("11: side MAX", x.spade(1, MAX), -1);
        due("11: cell 4", x.spade(4, 0), -1);
        due("11: cell -1", x.spade(-1, 0), -1);
        due("11: cell MIN", x.spade(MIN, 0), -1);
        due("11: nothing happened", x.count(11) * 100 + x.count(9), 15);
        due("11: down", x.spade(0, 2), 2);
        due("11: 0 lost one", x.cell(0, 0), 0);
        due("11: 2 got one", x.cell(2, 0), 6);
        due("11: now from none", x.spade(0, 2), -1);
        due("11: right", x.spade(2, 1), 3);
        due("11: left", x.spade(1, 3), 0);
        due("11: up", x.spade(2, 0), 0);
        due("11: heights", x.cell(0, 0) * 1000 + x.cell(1, 0) * 100 + x.cell(2, 0) * 10
                + x.cell(3, 0), 2841);
        due("11: acts", x.count(11), 4);
        due("11: no wave", x.count(6), 0);
        due("11: without a beach", new TideCastle().spade(0, 1), -1);
    }

    private static void promise12() {
        TideCastle x = Check.on("beach 2 2;row 19;row 50;flag 0 9 1;flag 1 9 2;flag 0 9 4;wave 0");
        due("12: flag 3", x.give(3), -1);
        due("12: flag -1", x.give(-1), -1);
        due("12: flag MAX", x.give(MAX), -1);
        x.wave();
        due("12: marks", x.count(7), 7);
        due("12: give 0", x.give(0), 2);
        due("12: give 0 again", x.give(0), -1);
        due("12: 9 at most", x.give(1), 9);
        due("12: fallen ahead of 1", x.flag(1, 3), 1);
        due("12: standing", x.count(8), 4);
        due("12: acts", x.count(11), 3);
        due("12: give 2", x.give(2), 3);
        x.wave();
        due("12: marks stay", x.count(7), 7);
        due("12: without a beach", new TideCastle().give(0), -1);
    }

    private static void promise13() {
        TideCastle x = Check.on("beach 2 2;flag 0 9 1;flag 3 1 2;wave 6");
        due("13: where it is", x.move(0, 0), -1);
        due("13: cell 4", x.move(0, 4), -1);
        due("13: cell -1", x.move(0, -1), -1);
        due("13: flag 2", x.move(2, 0), -1);
        due("13: flag -1", x.move(-1, 0), -1);
        due("13: flag MIN", x.move(MIN, MAX), -1);
        due("13: nothing happened", x.count(11), 0);
        due("13: to 3", x.move(0, 3), 0);
        due("13: its cell", x.flag(0, 0), 3);
        due("13: flags of 3", x.cell(3, 2), 3);
        due("13: flags of 0", x.cell(0, 2), 0);
        due("13: no sand with it", x.count(9), 8);
        due("13: to 1", x.move(0, 1), 3);
        due("13: acts", x.count(11), 2);
        x.wave();
        due("13: a fallen one", x.move(1, 0), -1);
        due("13: a standing one", x.move(0, 0), 1);
        due("13: without a beach", new TideCastle().move(0, 1), -1);
    }

    private static void promise14() {
        TideCastle x = Check.on(BAY);
        due("14: none", x.undo(), -2);
        x.wave();
        x.spade(0, 1);
        x.give(1);
        due("14: of three", x.undo(), 2);
        due("14: flag 1 stands", x.flag(1, 3), -1);
        due("14: height of 0", x.cell(0, 0), 4);
        due("14: of two", x.undo(), 1);
        due("14: height of 0", x.cell(0, 0), 5);
        Check.rule(x, "take 3");
        x.force(0);
        x.seed(5);
        x.log(0, 0, 5);
        due("14: the wave", x.undo(), 0);
        due("14: wave to come", x.count(6), 0);
        due("14: marks", x.count(7), 0);
        due("14: standing", x.count(8), 3);
        due("14: heights", x.count(9), 22);
        due("14: wet", x.cell(7, 1), 0);
        due("14: no acts: rule, x, log", x.count(5) * 100 + x.count(12) * 10 + x.count(10), 51);
        due("14: none", x.undo(), -2);
        for (int i = 0; i < 25; i++) {
            x.move(1, i % 2 == 0 ? 8 : i == 5 ? 2 : 0);
        }
        due("14: 20 at most", x.count(11), 20);
        for (int i = 19; i >= 0; i--) {
            due("14: the last first", x.flag(1, 0), (i + 5) % 2 == 0 ? 8 : i == 0 ? 2 : 0);
            due("14: of 20", x.undo(), i);
        }
        due("14: the 21st stays", x.flag(1, 0), 8);
        due("14: none", x.undo(), -2);
        due("14: without a beach", new TideCastle().undo(), -2);
    }

    private static void promise15() {
        TideCastle x = Check.on(BAY);
        due("15: to 4, first", x.way(4, 0), 7);
        due("15: to 4, second", x.way(4, 1), 4);
        due("15: to 4, third", x.way(4, 2), -2);
        due("15: to 3", x.way(3, 0) * 10 + x.way(3, 1), 63);
        due("15: to 6, from the sea itself", x.way(6, 0), 6);
        due("15: to 6, no more", x.way(6, 1), -2);
        due("15: to 0, where it does not come", x.way(0, 0), -2);
        due("15: k MAX", x.way(4, MAX), -2);
        due("15: k -1", x.way(4, -1), -1);
        due("15: cell 9", x.way(9, 0), -1);
        due("15: cell -1", x.way(-1, 0), -1);
        due("15: without a beach", new TideCastle().way(0, 0), -1);
        // From 0 back 1 and 2 lead as well: the least cell, and the sea ahead of any cell.
        TideCastle flat = Check.on("beach 2 2;row 00;row 00;wave 9");
        due("15: to 0 by 2", flat.way(0, 0) * 10 + flat.way(0, 1), 20);
        TideCastle ring = Check.on("beach 3 2;row 000;row 090;wave 9");
        // Cell 1 by 0 or by 2, as strong: 3, 0, 1.
        due("15: to 1 by 3 and 0", ring.way(1, 0) * 100 + ring.way(1, 1) * 10 + ring.way(1, 2), 301);
        // Round a wall and down again: 6, 3, 0, 1, 2, 5.
        TideCastle round = Check.on("beach 3 3;row 000;row 090;row 099;wave 12");
        int[] down = {6, 3, 0, 1, 2, 5, -2};
        for (int k = 0; k < down.length; k++) {
            due("15: round a wall, " + k, round.way(5, k), down[k]);
        }
        TideCastle sea = Check.on("beach 2 2;row 99;row 02;wave 9");
        // Cell 3 by the sea: 9 - 1 - 2 = 6; by cell 2: 8 - 1 - 2 = 5.
        due("15: to 3 by the sea", sea.way(3, 0), 3);
    }

    private static void promise16() {
        TideCastle x = Check.on(BAY);
        due("16: height at once", x.ahead(4, 0, 0), 1);
        due("16: height after 1", x.ahead(4, 1, 0), 0);
        due("16: height of 3 after 100", x.ahead(3, 100, 0), 2);
        due("16: marks at once", x.ahead(0, 0, 1), 0);
        due("16: marks after 100", x.ahead(0, 100, 1), 100);
        due("16: flags at once", x.ahead(0, 0, 2), 3);
        due("16: flags after 1", x.ahead(0, 1, 2), 2);
        due("16: nothing changes", x.count(6) * 100 + x.count(9), 22);
        x.wave();
        due("16: marks go on from those got", x.ahead(0, 2, 1), 3);
        due("16: n 101", x.ahead(0, 101, 1), -1);
        due("16: n -1", x.ahead(0, -1, 1), -1);
        due("16: n MAX", x.ahead(0, MAX, 1), -1);
        due("16: what 3", x.ahead(0, 1, 3), -1);
        due("16: what -1", x.ahead(0, 1, -1), -1);
        due("16: cell 9", x.ahead(9, 1, 0), -1);
        due("16: cell -1", x.ahead(-1, 1, 1), -1);
        due("16: without a beach", new TideCastle().ahead(0, 0, 1), -1);
    }

    private static void promise17() {
        TideCastle x = Check.on(BAY);
        due("17: flag 0", x.falls(0), 0);
        due("17: flag 1", x.falls(1), -2);
        due("17: flag 2", x.falls(2), -1);
        due("17: flag -1", x.falls(-1), -1);
        due("17: flag MAX", x.falls(MAX), -1);
        x.wave();
        due("17: flag 0 fell", x.falls(0), -3);
        due("17: without a beach", new TideCastle().falls(0), -1);
        // 9 of sand, 1 of it every 7 waves: it is gone in the wave 56, behind 60 waves or within.
        String beach = "beach 2 2;row 99;row 99;flag 0 20 1;wave 20";
        TideCastle slow = Check.on(beach, "take 1 if wave%7=0");
        due("17: within 60", slow.falls(0), 56);
        slow.wave();
        due("17: the number of the wave", slow.falls(0), 56);
        due("17: in the 60th", Check.on(beach, "take 3 if wave>56").falls(0), 59);
        due("17: in the 61st", Check.on(beach, "take 3 if wave>57").falls(0), -2);
    }

    private static void promise18() {
        TideCastle x = Check.on(LOW);
        due("18: marks by one", x.dig(1, 1, 0), 10);
        due("18: one", x.dig(1, 1, 1), 1);
        due("18: from 1 to the left", x.dig(1, 1, 2), 7);
        due("18: no second", x.dig(1, 1, 3), -2);
        due("18: the fewest", x.dig(2, 1, 1), 1);
        due("18: marks by one, two waves", x.dig(1, 2, 0), 10);
        due("18: marks by two, two waves", x.dig(2, 2, 0), 20);
        due("18: two", x.dig(2, 2, 1), 2);
        due("18: first of two", x.dig(2, 2, 2), 7);
        due("18: second of two", x.dig(2, 2, 3), 7);
        due("18: nothing changes", x.count(11) * 100 + x.count(9), 7);
        x.spade(1, 3);
        x.wave();
        due("18: marks go on from those got", x.dig(1, 1, 0), 20);
        due("18: k 0", x.dig(0, 1, 0), -1);
        due("18: k 3", x.dig(3, 1, 0), -1);
        due("18: n 0", x.dig(1, 0, 0), -1);
        due("18: n 7", x.dig(1, 7, 0), -1);
        due("18: what 4", x.dig(1, 1, 4), -1);
        due("18: what -1", x.dig(1, 1, -1), -1);
        due("18: all off", x.dig(MIN, MAX, MIN), -1);
        due("18: without a beach", new TideCastle().dig(1, 1, 0), -1);
        TideCastle calm = Check.on("beach 5 5;flag 0 9 3;wave 0");
        due("18: none needed", calm.dig(2, 6, 0), 18);
        due("18: none", calm.dig(2, 6, 1), 0);
        due("18: no first", calm.dig(2, 6, 2), -2);
        due("18: no second", calm.dig(2, 6, 3), -2);
        // From 3 by 1 to 0: the second SPADE has its sand from the first, and could not come first.
        TideCastle far = Check.on("beach 2 2;row 10;row 05;flag 0 9 10;wave 9");
        due("18: one does not help", far.dig(1, 1, 0), 0);
        due("18: one behind the other", far.dig(2, 1, 0), 10);
        due("18: from 3 up", far.dig(2, 1, 2), 12);
        due("18: from 1 to the left", far.dig(2, 1, 3), 7);
        due("18: no flags", Check.on("beach 2 2").dig(2, 6, 0), 0);
    }

    private static void promise19() {
        TideCastle x = Check.on(LOW);
        due("19: nothing helps", x.rival(1, 0), 0);
        due("19: so none", x.rival(1, 1), -1);
        // With 2 of sand the rival takes one and the wave the other; a spadeful more saves it once.
        TideCastle y = Check.on("beach 2 2;row 22;row 22;flag 0 9 10;wave 9");
        due("19: saved", y.rival(1, 0), 10);
        due("19: from 1 to the left", y.rival(1, 1), 7);
        due("19: two waves are too many", y.rival(2, 0), 10);
        due("19: three, too", y.rival(3, 0), 10);
        TideCastle calm = Check.on("beach 5 5;flag 12 9 3;wave 0");
        due("19: no need", calm.rival(6, 0), 18);
        due("19: none", calm.rival(6, 1), -1);
        TideCastle thin = Check.on("beach 2 2;row 12;row 22;flag 0 9 10;wave 0");
        due("19: against the rival's spade alone", thin.rival(4, 0), 40);
        due("19: from 1 to the left", thin.rival(4, 1), 7);
        due("19: nothing changes", thin.count(11) * 100 + thin.count(9), 7);
        thin.wave();
        due("19: marks go on from those got", thin.rival(4, 0), 50);
        due("19: n 0", x.rival(0, 0), -2);
        due("19: n 7", x.rival(7, 0), -2);
        due("19: what 2", x.rival(1, 2), -2);
        due("19: what -1", x.rival(1, -1), -2);
        due("19: all off", x.rival(MAX, MIN), -2);
        due("19: without a beach", new TideCastle().rival(1, 0), -2);
    }

    private static void promise20() {
        TideCastle x = Check.on(BAY);
        due("20: three", x.wall(0, 0), 3);
        due("20: 3, 5 and 7", x.wall(0, 1), 8 | 32 | 128);
        due("20: none needed", x.wall(1, 0), 0);
        due("20: none", x.wall(1, 1), 0);
        due("20: what 2", x.wall(0, 2), -1);
        due("20: what -1", x.wall(0, -1), -1);
        due("20: flag 2", x.wall(2, 0), -1);
        due("20: flag -1", x.wall(-1, 0), -1);
        due("20: nothing changes", x.count(9), 22);
        x.wave();
        due("20: a fallen one", x.wall(0, 0), -1);
        due("20: without a beach", new TideCastle().wall(0, 0), -1);
        TideCastle one = Check.on("beach 2 2;row 19;row 29;flag 0 5 1;flag 2 9 1;wave 5");
        due("20: one", one.wall(0, 0), 1);
        due("20: cell 2", one.wall(0, 1), 4);
        due("20: beside the sea", one.wall(1, 0), -2);
        due("20: beside the sea", one.wall(1, 1), -2);
        // Behind 2 alone it comes by 3 and 1; {1, 2} and {2, 3} would do: the greatest is least.
        TideCastle two = Check.on("beach 2 3;row 00;row 00;row 00;flag 0 9 1;wave 5");
        due("20: two", two.wall(0, 0), 2);
        due("20: 1 and 2", two.wall(0, 1), 6);
        due("20: by three walls not either",
                Check.on("beach 2 2;row 00;row 00;flag 0 9 1;wave 20").wall(0, 0), -2);
    }

    private static void promise21() {
        TideCastle x = Check.on("beach 2 2;row 19;row 29;flag 0 5 1;flag 1 9 1;wave 5");
        due("21: by 2", x.high(0, 2), 4);
        due("21: not by 3", x.high(0, 3), -2);
        due("21: not by 1", x.high(0, 1), -2);
        due("21: as high as it is", x.high(1, 2), 2);
        due("21: as high as it is", x.high(1, 3), 9);
        due("21: its own", x.high(0, 0), -1);
        due("21: cell 4", x.high(0, 4), -1);
        due("21: cell -1", x.high(0, -1), -1);
        due("21: flag 2", x.high(2, 0), -1);
        due("21: flag -1", x.high(-1, 2), -1);
        due("21: nothing changes", x.count(9), 21);
        x.give(0);
        due("21: a fallen one", x.high(0, 2), -1);
        due("21: without a beach", new TideCastle().high(0, 1), -1);
        // A pit that is filled lets it come: cell 2 as it is keeps off what it would let by at 3.
        TideCastle pit = Check.on("beach 2 3;row 59;row 09;row 59;flag 0 9 1;wave 11");
        due("21: a pit", pit.high(0, 2), 0);
    }

    private static void promise22() {
        TideCastle x = Check.on(BAY);
        due("22: above", x.odds(0, 0), 1);
        due("22: below", x.odds(0, 1), 2);
        due("22: never, above", x.odds(1, 0), 0);
        due("22: never, below", x.odds(1, 1), 1);
        due("22: part 2", x.odds(0, 2), -1);
        due("22: part -1", x.odds(0, -1), -1);
        due("22: flag 2", x.odds(2, 0), -1);
        due("22: flag -1", x.odds(-1, 0), -1);
        x.wave();
        due("22: a fallen one", x.odds(0, 0), -1);
        due("22: without a beach", new TideCastle().odds(0, 0), -1);
        TideCastle y = Check.on(SWELL + "swell 3 4 2");
        due("22: 2 of 9, above", y.odds(0, 0), 2);
        due("22: 2 of 9, below", y.odds(0, 1), 9);
        TideCastle z = Check.on(SWELL + "swell 0 3 6");
        due("22: 6 of 9, above", z.odds(0, 0), 2);
        due("22: 6 of 9, below", z.odds(0, 1), 3);
        TideCastle sure = Check.on("beach 2 2;row 02;row 22;flag 0 20 1;wave 0;swell 4 1 4");
        due("22: always, above", sure.odds(0, 0), 1);
        due("22: always, below", sure.odds(0, 1), 1);
        due("22: without swell", Check.on(SWELL + "wave 6").odds(0, 1), 1);
    }

    private static void promise23() {
        TideCastle x = Check.on("beach 2 2;row 12;row 22;flag 0 9 10;flag 0 9 1;wave 9");
        due("23: flag 1", x.giveUp(1, 0), 1);
        due("23: marks", x.giveUp(1, 1), 10);
        due("23: after 60", x.giveUp(60, 1), 10);
        due("23: nothing changes", x.count(11) * 100 + x.count(9), 7);
        TideCastle same = Check.on("beach 2 2;row 12;row 22;flag 0 9 4;flag 0 9 4;wave 9");
        due("23: of several the least", same.giveUp(1, 0), 0);
        TideCastle calm = Check.on("beach 2 2;flag 0 9 4;wave 0");
        due("23: none", calm.giveUp(60, 0), -1);
        due("23: marks of all", calm.giveUp(60, 1), 240);
        calm.wave();
        due("23: marks go on from those got", calm.giveUp(60, 1), 244);
        due("23: of several none", Check.on("beach 2 2").giveUp(1, 0), -1);
        due("23: n 0", x.giveUp(0, 0), -2);
        due("23: n 61", x.giveUp(61, 0), -2);
        due("23: what 2", x.giveUp(1, 2), -2);
        due("23: what -1", x.giveUp(1, -1), -2);
        due("23: without a beach", new TideCastle().giveUp(1, 0), -2);
    }

    private static void promise24() {
        TideCastle x = Check.on(BAY);
        due("24: flag 0", x.borne(0), 5);
        due("24: flag 1", x.borne(1), 16);
        due("24: flag 2", x.borne(2), -2);
        due("24: flag -1", x.borne(-1), -2);
        x.wave();
        due("24: a fallen one", x.borne(0), -2);
        due("24: without a beach", new TideCastle().borne(0), -2);
        due("24: by none", Check.on("beach 2 2;row 02;flag 0 20 1").borne(0), -1);
        due("24: by all",
                Check.on("beach 2 5;row 99;row 00;row 99;row 00;row 99;flag 0 20 1").borne(0), 40);
        // 20 are lost on the way to cell 0: by 9 up to 4, down to 2, by 8 up to 0, and 3 cells.
        due("24: by 39", Check.on("beach 2 3;row 80;row 09;row 90;flag 0 20 1").borne(0), 39);
        due("24: by 30", Check.on("beach 2 2;row 99;row 99;flag 0 20 1").borne(0), 30);
        // By FORCE 20 alone all sand goes; by more none does, which does not count.
        String beach = "beach 2 2;row 33;row 33;flag 0 20 1";
        due("24: not by a less one", Check.on(beach, "take 3 if force=20").borne(0), 19);
        due("24: else", Check.on(beach, "take 0").borne(0), 24);
    }

    private static void promise25() {
        TideCastle x = Check.on("beach 2 2");
        due("25: n 61", x.log(61, 0, 0), -2);
        due("25: n -2", x.log(-2, 0, 0), -2);
        due("25: n MIN", x.log(MIN, 0, 0), -2);
        due("25: cell 4", x.log(0, 4, 0), -2);
        due("25: cell -1", x.log(0, -1, 0), -2);
        due("25: height 10", x.log(0, 0, 10), -2);
        due("25: height -1", x.log(0, 0, -1), -2);
        due("25: nothing happened", x.count(10), 0);
        for (int i = 1; i <= 10; i++) {
            due("25: log " + i, x.log(6 * i, i % 4, i - 1), i);
        }
        due("25: an 11th", x.log(0, 0, 2), -2);
        due("25: ten", x.count(10), 10);
        due("25: none then", x.log(-1, 99, 99), 0);
        due("25: none", x.count(10), 0);
        due("25: the first again", x.log(60, 3, 9), 1);
        due("25: without a beach", new TideCastle().log(0, 0, 0), -2);
        due("25: none then, without a beach", new TideCastle().log(-1, 0, 0), 0);
    }

    /** Ahead of WAVE 1: by none and RULE 1 all cells are 8 high, by 0 9, by 2 8 but for cell 0: 7. */
    private static TideCastle threeRules() {
        TideCastle x = Check.on(CLIFF);
        Check.rule(x, "take 0");
        Check.rule(x, "take 1");
        Check.rule(x, "take 2 if cell=0;take 1");
        return x;
    }

    private static void promise26() {
        TideCastle x = threeRules();
        due("26: all", x.ruled(0), 4);
        due("26: the first", x.ruled(1), -1);
        x.log(1, 0, 8);
        due("26: none and 1", x.ruled(0), 2);
        due("26: none", x.ruled(1), -1);
        x.force(2);
        x.wave();
        x.spade(0, 1);
        due("26: from the begin on", x.ruled(0), 2);
        x.log(-1, 0, 0);
        x.log(1, 0, 7);
        due("26: 2", x.ruled(0) * 10 + x.ruled(1), 12);
        x.log(2, 1, 7);
        due("26: 2", x.ruled(0) * 10 + x.ruled(1), 12);
        x.log(60, 1, 0);
        due("26: 2, in the end", x.ruled(0) * 10 + x.ruled(1), 12);
        x.log(0, 0, 9);
        due("26: 2, at first", x.ruled(0) * 10 + x.ruled(1), 12);
        x.log(0, 0, 8);
        due("26: no rule", x.ruled(0), 0);
        due("26: no rule", x.ruled(1), -2);
        x.log(-1, 0, 0);
        x.log(60, 2, 9);
        due("26: 0", x.ruled(0) * 10 + x.ruled(1), 10);
        due("26: what 2", x.ruled(2), -3);
        due("26: what -1", x.ruled(-1), -3);
        due("26: without a beach", new TideCastle().ruled(0), -3);
    }

    private static void promise27() {
        TideCastle x = threeRules();
        due("27: cell 0", x.look(1, 0), 0);
        due("27: two alike", x.look(1, 1), 2);
        due("27: all alike, the least cell", x.look(0, 0), 0);
        due("27: all alike", x.look(0, 1), 4);
        due("27: of 60, three without sand", x.look(60, 1), 3);
        Check.rule(x, "take 2 if cell=2");
        x.log(1, 0, 9);
        due("27: 0 and 3 part in cell 2", x.look(1, 0), 2);
        due("27: one alike", x.look(1, 1), 1);
        x.log(1, 0, 8);
        due("27: no rule", x.look(1, 0), -2);
        due("27: no rule", x.look(1, 1), -2);
        due("27: n 61", x.look(61, 0), -1);
        due("27: n -1", x.look(-1, 0), -1);
        due("27: what 2", x.look(1, 2), -1);
        due("27: what -1", x.look(1, -1), -1);
        due("27: without a beach", new TideCastle().look(0, 0), -1);
    }

    private static void promise28() {
        TideCastle x = new TideCastle();
        due("28: 0 at first", x.seed(MAX), 0);
        due("28: below 0", x.seed(-1), -1);
        due("28: MIN", x.seed(MIN), -1);
        due("28: what it was", x.seed(0), MAX);
        due("28: what it was", x.seed(5), 0);
        due("28: x", x.count(12), 5);
    }

    private static void promise29() {
        // From x = 0 on the DRAWS mod 2 are 0 0 0 1 0 1, mod 2 of 1: 1 more of FORCE.
        TideCastle x = Check.on(SWELL + "swell 1 0 1");
        due("29: 3 waves", x.tides(1, 3, 0), 21);
        due("29: 3 waves, none falls", x.tides(1, 3, 1), 0);
        due("29: 4 waves", x.tides(1, 4, 0), 21);
        due("29: 4 waves, it falls", x.tides(1, 4, 1), 1);
        due("29: 2 times 2", x.tides(2, 2, 0), 21);
        due("29: 2 times 2", x.tides(2, 2, 1), 1);
        due("29: 3 times 2", x.tides(3, 2, 0), 28);
        due("29: 3 times 2", x.tides(3, 2, 1), 2);
        due("29: x as it was", x.count(12), 0);
        due("29: nothing changes", x.count(6) * 10 + x.count(8), 1);
        x.wave();
        due("29: marks got in them alone", x.tides(1, 3, 0), 21);
        // The first DRAW from x = 1 on is 16838: 2 mod 3, 2 mod 4, 3 mod 5.
        TideCastle third = Check.on(SWELL + "swell 1 1 1");
        third.seed(1);
        due("29: above both first ones", third.tides(1, 1, 1), 1);
        TideCastle quarter = Check.on(SWELL + "swell 1 2 1");
        quarter.seed(1);
        due("29: below both first ones", quarter.tides(1, 1, 1), 0);
        TideCastle fifth = Check.on(SWELL + "wave 5;swell 0 3 2");
        fifth.seed(1);
        due("29: not below both", fifth.tides(1, 1, 0) * 10 + fifth.tides(1, 1, 1), 1);
        due("29: without swell as told", Check.on(SWELL + "wave 5").tides(10, 60, 0), 7 * 600);
        due("29: m 0", x.tides(0, 1, 0), -1);
        due("29: m 11", x.tides(11, 1, 0), -1);
        due("29: n 0", x.tides(1, 0, 0), -1);
        due("29: n 61", x.tides(1, 61, 0), -1);
        due("29: what 2", x.tides(1, 1, 2), -1);
        due("29: what -1", x.tides(1, 1, -1), -1);
        due("29: without a beach", new TideCastle().tides(1, 1, 0), -1);
    }

    private static void promise30() {
        TideCastle x = Check.on(BAY, "take 1");
        x.wave();
        x.wave();
        x.log(0, 0, 5);
        x.seed(99);
        x.feed(0, 0, 0, 0, 0);
        // WAVE 0 takes 1 of 3, 4, 5, 6 and 8; WAVE 1 comes by 2 to the last row, by 1 to 4.
        int[] want = {3, 3, 2, 2, 1, 0, 2, 2, 2, 15 + 1 + 0 + 1, 1, 2, 99, 20};
        for (int what = 0; what < want.length; what++) {
            due("30: count(" + what + ")", x.count(what), want[what]);
        }
        due("30: count(14)", x.count(14), -1);
        due("30: count(-1)", x.count(-1), -1);
        due("30: count(MAX)", x.count(MAX), -1);
        due("30: count(MIN)", x.count(MIN), -1);
    }

    private static void promise31() {
        TideCastle x = new TideCastle();
        due("31: without a beach", x.image(3), 0);
        Check.beach(x, BAY);
        x.wave();
        due("31: image(0)", x.image(0), 1);
        due("31: image(4)", x.image(4), -1);
        due("31: image(-1)", x.image(-1), -1);
        due("31: image(MAX)", x.image(MAX), -1);
        x.wave();
        due("31: anew", x.image(0), 2);
        x.wave();
        due("31: the later one", x.back(0), 2);
    }

    private static void promise32() {
        TideCastle x = Check.on(BAY, "take 1");
        due("32: never made", x.back(0), -1);
        due("32: back(-1)", x.back(-1), -1);
        due("32: back(4)", x.back(4), -1);
        x.wave();
        x.seed(7);
        x.log(1, 2, 3);
        x.image(2);
        x.wave();
        x.give(1);
        x.seed(8);
        x.log(-1, 0, 0);
        x.force(-1);
        Check.beach(x, "beach 5 5");
        Check.rule(x, "take 2");
        x.feed(0, 0, 0, 0, 0);
        due("32: never made", x.back(1), -1);
        due("32: nothing happens", x.count(0), 5);
        due("32: back(2)", x.back(2), 1);
        int[] want = {3, 3, 2, 2, 2, 0, 1, 1, 2, 17, 1, 1, 7, 20};
        for (int what = 0; what < want.length; what++) {
            due("32: count(" + what + ")", x.count(what), want[what]);
        }
        due("32: wet", x.cell(3, 1), 1);
        due("32: the act is undone", x.undo(), 0);
        due("32: heights", x.count(9), 22);
        x.move(0, 1);
        x.move(0, 2);
        due("32: again", x.back(2), 1);
        due("32: it was not changed", x.undo() * 100 + x.count(9), 22);
        due("32: nor was its flag", x.flag(0, 0), 4);
    }

    public static void main(String[] args) {
        promise1();
        promise2();
        promise3();
        promise4();
        promise5();
        promise6();
        promise7();
        strengthOverHills();
        promise8();
        promise9();
        promise10();
        sums();
        tests();
        words();
        promise11();
        promise12();
        promise13();
        promise14();
        promise15();
        promise16();
        promise17();
        promise18();
        promise19();
        promise20();
        promise21();
        promise22();
        promise23();
        promise24();
        promise25();
        promise26();
        promise27();
        promise28();
        promise29();
        promise30();
        promise31();
        promise32();
        CHECK.close();
    }
}
