/** Sentences on STRENGTH, a WAVE and the ACTS (Terms, part II; promises 10 to 14). */
final class WaveSentences {
    private static final int MIN = Integer.MIN_VALUE;
    private static final int MAX = Integer.MAX_VALUE;
    // All cells 9 high: a WAVE comes to the upper ones by 9, to the lower ones by 10.
    private static final String CLIFF = "beach 2 2;row 99;row 99;wave 20";
    private final Sentences s;

    private WaveSentences(Sentences s) {
        this.s = s;
    }

    static void all(Sentences s) {
        WaveSentences w = new WaveSentences(s);
        w.fromTheSea();
        w.overHills();
        w.comesOrNot();
        w.sandTaken();
        w.sandTakenByARule();
        w.flagsThatFall();
        w.marks();
        w.wet();
        w.wavesCounted();
        w.waveRefused();
        w.spades();
        w.spadesRefused();
        w.gives();
        w.moves();
        w.undone();
        w.lastTwenty();
    }

    private void strengths(String beach, String want) {
        s.same("strengths of \"" + beach + "\"", Sentences.strengths(Check.on(beach)), want);
    }

    private void fromTheSea() {
        s.of(7, "the most that comes to it from the sea (which is as low as 0, and where STRENGTH is "
                + "the FORCE; it is beside the cells of the last row) or from a cell beside");
        strengths("beach 2 2;row 00;row 00;wave 9", "7 7 8 8");
        strengths("beach 2 2;row 00;row 05;wave 9", "7 6 8 3");
        strengths("beach 2 2;row 99;row 05;wave 9", "0 0 8 3");
        strengths("beach 2 2;row 99;row 90;wave 9", "0 0 0 8");
        // Cell 1 is reached from cell 0, not over the 8 of cell 3.
        strengths("beach 2 2;row 00;row 08;wave 12", "10 9 11 3");
        // Round a wall and down again towards the sea.
        strengths("beach 3 3;row 000;row 090;row 099;wave 12", "9 8 7 10 1 6 11 2 2");
    }

    private void overHills() {
        s.of(7, "what it is there less 1, and less by how much this cell is higher than that one");
        strengths("beach 2 2;row 19;row 09;wave 9", "6 0 8 0");
        strengths("beach 2 2;row 39;row 39;wave 9", "4 0 5 0");
        // Down nothing is won.
        strengths("beach 2 2;row 09;row 39;wave 9", "4 0 5 0");
        strengths("beach 2 4;row 09;row 09;row 59;row 09;wave 9", "0 0 1 0 2 0 8 0");
    }

    private void comesOrNot() {
        s.of(10, "it comes to a cell, if that is 1 or more (and goes on from such cells alone)");
        strengths("beach 2 2;row 00;row 11;wave 2", "0 0 0 0");
        s.due("by 0 to none", Check.on("beach 2 2;row 00;row 11;wave 2").wave(), 0);
        strengths("beach 2 2;row 00;row 11;wave 3", "0 0 1 1");
        s.due("by 1 to two", Check.on("beach 2 2;row 00;row 11;wave 3").wave(), 2);
        strengths("beach 2 2;row 00;row 11;wave 4", "1 1 2 2");
        s.due("by 2 and 1 to four", Check.on("beach 2 2;row 00;row 11;wave 4").wave(), 4);
        s.due("of force 0 to none", Check.on("beach 2 2;row 00;row 00;wave 0").wave(), 0);
        s.due("of force 1 to none", Check.on("beach 2 2;row 00;row 00;wave 1").wave(), 0);
        s.due("of force 2 to the last row", Check.on("beach 2 2;row 00;row 00;wave 2").wave(), 2);
        strengths("beach 2 5;row 00;row 00;row 00;row 00;row 00;wave 6", "1 1 2 2 3 3 4 4 5 5");
        strengths("beach 2 5;row 00;row 00;row 00;row 00;row 00;wave 5", "0 0 1 1 2 2 3 3 4 4");

        s.of(7, "STRENGTH of the WAVE to come in a cell (0: it does not come to it)");
        strengths("beach 2 2;row 99;row 99;wave 9", "0 0 0 0");
        strengths("beach 2 2;row 99;row 99;wave 10", "0 0 0 0");
        strengths("beach 2 2;row 99;row 99;wave 11", "0 0 1 1");
        strengths("beach 2 2;row 99;row 99;wave 20", "9 9 10 10");
    }

    private void heightsAfter(String call, TideCastle x, String want) {
        x.wave();
        s.same(call + ": " + Sentences.heights(x), Sentences.heights(x), want);
    }

    private void sandTaken() {
        s.of(10, "without a RULE 1, if STRENGTH is 3 or more");
        // STRENGTHS 2 and 3 in the last row, 1 and 2 above.
        heightsAfter("2 and 3", Check.on("beach 2 2;row 21;row 21;wave 5"), "2120");
        heightsAfter("3 and 4", Check.on("beach 2 2;row 21;row 21;wave 6"), "2010");
        heightsAfter("4 and 5", Check.on("beach 2 2;row 21;row 21;wave 7"), "1010");
        heightsAfter("9 and 10", Check.on(CLIFF), "8888");
        TideCastle off = Check.on(CLIFF, "take 3");
        off.force(-1);
        heightsAfter("none in force any longer", off, "8888");

        s.of(10, "HEIGHT is 0 at least");
        heightsAfter("0 stays 0", Check.on("beach 2 2;row 00;row 00;wave 20"), "0000");
        heightsAfter("1, 2 and 3 by 3", Check.on("beach 2 2;row 12;row 34;wave 20", "take 3"), "0001");
        heightsAfter("0 by 3", Check.on("beach 2 2;row 00;row 00;wave 20", "take 3"), "0000");
    }

    private void sandTakenByARule() {
        s.of(10, "from each cell it comes to as much sand is taken, all at once, by how all was ahead "
                + "of it");
        heightsAfter("not where it does not come", Check.on("beach 2 2;row 99;row 22;wave 9", "take 2"),
                "9900");
        // Each of two cells is lower than the one beside, if the other one went first.
        heightsAfter("by how all was", Check.on("beach 2 2;row 55;row 99;wave 20",
                "take 1 if high>=9 and height=5 and low=5"), "4499");
        heightsAfter("by how flags stood", Check.on("beach 2 2;row 99;row 99;flag 0 1 1;wave 20",
                "take 1 if flags=1"), "8999");

        s.of(10, "the SUM of its first CLAUSE without a TEST, or whose TEST holds (0 without)");
        heightsAfter("the first whose test holds", Check.on(CLIFF,
                "take 3 if cell>3;take 2 if cell<2;take 1 if cell<3;take 0;take 3"), "7789");
        heightsAfter("the first without a test", Check.on(CLIFF, "take 1;take 2 if 1=1"), "8888");
        heightsAfter("none holds", Check.on(CLIFF, "take 3 if cell=4;take 2 if cell=5"), "9999");
        heightsAfter("a sum of 0 is one", Check.on(CLIFF, "take 0 if cell=0;take 2"), "9777");

        s.of(10, "held to 0 to 3");
        heightsAfter("0-1", Check.on(CLIFF, "take 0-1"), "9999");
        heightsAfter("0-99999", Check.on(CLIFF, "take 0-99999"), "9999");
        heightsAfter("0 to 3", Check.on(CLIFF, "take cell"), "9876");
        heightsAfter("3 to 6", Check.on(CLIFF, "take cell+3"), "6666");
        heightsAfter("2 to 5", Check.on(CLIFF, "take cell+2"), "7666");
        heightsAfter("far more", Check.on(CLIFF, "take 99999*99999"), "6666");
        // 65536 times itself is 0 in 32 bits.
        heightsAfter("beyond 32 bits", Check.on(CLIFF, "take 65536*65536"), "6666");
        heightsAfter("below 0 beyond 32 bits", Check.on(CLIFF, "take 1-65536*65536"), "9999");
    }

    private void flagsThatFall() {
        s.of(10, "a FLAG that stands FALLS, if STRENGTH in its cell was its STAND or more");
        // STRENGTH is 5 in cell 2, 4 in cell 0.
        String beach = "beach 2 2;row 33;row 33;wave 9;flag 2 ";
        for (int stand = 1; stand <= 7; stand++) {
            TideCastle x = Check.on(beach + stand + " 1");
            x.wave();
            s.due("of stand " + stand, x.flag(0, 3), stand <= 5 ? 0 : -1);
        }
        TideCastle far = Check.on("beach 2 2;row 99;row 11;wave 2;flag 2 1 1;flag 0 1 1");
        far.wave();
        s.due("by 0 of strength none", far.count(8), 3);

        s.of(10, "or its cell has HEIGHT 0 then");
        TideCastle y = Check.on("beach 2 2;row 12;row 22;wave 9;flag 0 20 1;flag 1 20 1");
        y.wave();
        s.due("the last sand went", y.flag(0, 3), 0);
        s.due("some is left", y.flag(1, 3), -1);
        y.wave();
        s.due("a wave later", y.flag(1, 3), 1);
        s.due("it fell long ago", y.flag(0, 3), 0);
        TideCastle dry = Check.on("beach 2 2;row 01;row 99;wave 0;flag 0 20 1;flag 1 20 1");
        dry.wave();
        s.due("where the wave does not come", dry.count(8), 2);
    }

    private void marks() {
        s.of(10, "MARKS grow by those of all FLAGS that stand then");
        TideCastle x = Check.on("beach 2 2;row 33;row 33;wave 9;flag 2 5 1;flag 2 6 10;flag 0 9 50");
        s.due("none at first", x.count(7), 0);
        x.wave();
        s.due("not of one that falls in it", x.count(7), 60);
        x.give(2);
        s.due("not by giving up", x.count(7), 60);
        x.spade(0, 1);
        x.move(1, 1);
        s.due("not by other acts", x.count(7), 60);
        x.wave();
        s.due("not of one given up", x.count(7), 70);
        TideCastle none = Check.on("beach 2 2");
        none.wave();
        s.due("without flags", none.count(7), 0);
    }

    private void wet() {
        s.of(7, "cells it came to are wet, others are not");
        TideCastle x = Check.on("beach 2 2;row 00;row 11;wave 3;wave 4;wave 3;wave 2");
        int[] wet = {0, 12, 15, 12, 0};
        for (int w = 0; w < wet.length; w++) {
            int bits = 0;
            for (int c = 0; c < 4; c++) {
                bits |= x.cell(c, 1) << c;
            }
            s.due("ahead of wave " + w, bits, wet[w]);
            x.wave();
        }
        TideCastle y = Check.on("beach 2 2;row 00;row 11;wave 4");
        y.wave();
        y.spade(2, 0);
        s.due("no other act makes dry", y.cell(0, 1) + y.cell(2, 1), 2);
    }

    private void wavesCounted() {
        s.of(10, "The number of the WAVE to come is 1 more");
        TideCastle x = Check.on(CLIFF + ";wave 0;flag 0 20 1");
        for (int w = 0; w < 5; w++) {
            s.due("wave to come", x.count(6), w);
            x.wave();
        }
        x.spade(0, 1);
        x.give(0);
        s.due("not by other acts", x.count(6), 5);

        // It is not come to within 512 calls; the class holds to it all the same.
        s.of(10, "(999 at most)");
        TideCastle long1 = Check.on("beach 2 2;flag 0 20 1;wave 0");
        int came = 0;
        for (int w = 0; w < 999; w++) {
            came += long1.wave();
        }
        s.due("to no cells", came, 0);
        s.due("wave to come", long1.count(6), 999);
        s.due("marks", long1.count(7), 999);

        s.of(10, "NONE, and nothing happens, without a BEACH, or at WAVE 999");
        s.due("at wave 999", long1.wave(), -1);
        s.due("wave to come", long1.count(6), 999);
        s.due("marks", long1.count(7), 999);
        s.due("acts", long1.count(11), 20);
        long1.undo();
        s.due("at wave 998", long1.wave(), 0);
        s.due("at wave 999", long1.wave(), -1);
    }

    private void waveRefused() {
        s.of(10, "NONE, and nothing happens, without a BEACH");
        TideCastle x = new TideCastle();
        String seen = Sentences.seen(x);
        s.due("wave", x.wave(), -1);
        s.same("wave", Sentences.seen(x), seen);

        s.of(10, "A WAVE: to how many cells it came");
        s.due("to all", Check.on("beach 5 5;wave 20").wave(), 25);
        s.due("to one", Check.on("beach 2 2;row 99;row 19;wave 3").wave(), 1);
        s.due("to none", Check.on("beach 5 5;wave 0").wave(), 0);
    }

    private void spades() {
        s.of(11, "SPADE (1 of HEIGHT goes from a cell that has some to one beside that has less than 9)");
        for (int from = 0; from <= 9; from++) {
            for (int to = 0; to <= 9; to++) {
                TideCastle x = Check.on("beach 2 2;row " + from + to);
                boolean can = from > 0 && to < 9;
                s.due("from " + from + " to " + to, x.spade(0, 1), can ? 1 : -1);
                s.due("left", x.cell(0, 0), can ? from - 1 : from);
                s.due("got", x.cell(1, 0), can ? to + 1 : to);
                s.due("acts", x.count(11), can ? 1 : 0);
            }
        }

        s.of(11, "SIDES: 0 up, a row less; 1 right; 2 down; 3 left");
        int[] to = {1, 5, 7, 3};
        for (int side = 0; side < 4; side++) {
            s.due("from the middle to side " + side, Check.on("beach 3 3").spade(4, side), to[side]);
        }
        for (int columns = 2; columns <= 5; columns++) {
            for (int rows = 2; rows <= 5; rows++) {
                sidesOf(columns, rows);
            }
        }
    }

    private void sidesOf(int columns, int rows) {
        for (int cell = 0; cell < columns * rows; cell++) {
            int column = cell % columns;
            int[] want = {cell < columns ? -1 : cell - columns, column == columns - 1 ? -1 : cell + 1,
                cell / columns == rows - 1 ? -1 : cell + columns, column == 0 ? -1 : cell - 1};
            TideCastle x = Check.on("beach " + columns + " " + rows);
            for (int side = 0; side < 4; side++) {
                s.due(columns + " by " + rows + ", " + cell + " to " + side, x.spade(cell, side),
                        want[side]);
                x.undo();
            }
        }
    }

    private void spadesRefused() {
        s.of(11, "SPADE from a cell to a SIDE (0 to 3): the cell it goes to; NONE, and nothing happens, "
                + "without these");
        TideCastle x = Check.on("beach 2 2;row 19;row 50;flag 0 9 1");
        x.wave();
        String seen = Sentences.seen(x);
        int[][] off = {{0, 0}, {0, 3}, {0, 1}, {2, 2}, {2, 3}, {1, 1}, {1, 0}, {3, 0}, {3, 3}, {3, 1},
            {1, 4}, {1, -1}, {1, MAX}, {1, MIN}, {4, 0}, {4, 3}, {-1, 1}, {-1, 2}, {MIN, 0}, {MAX, 3},
            {25, 0}, {MAX, MAX}, {MIN, MIN}};
        for (int[] o : off) {
            s.due("spade(" + o[0] + ", " + o[1] + ")", x.spade(o[0], o[1]), -1);
        }
        s.same("refused spades", Sentences.seen(x), seen);
        s.due("without a beach", new TideCastle().spade(0, 1), -1);
    }

    private void gives() {
        s.of(12, "GIVE (a FLAG that stands is given up: it has fallen; its cell is 1 higher, 9 at most)");
        for (int height = 0; height <= 9; height++) {
            TideCastle x = Check.on("beach 2 2;row " + height + height + ";flag 0 5 5");
            int then = Math.min(9, height + 1);
            s.due("give on " + height, x.give(0), then);
            s.due("its cell", x.cell(0, 0), then);
            s.due("another cell", x.cell(1, 0), height);
            s.due("standing", x.count(8), 0);
            s.due("flags in its cell", x.cell(0, 2), 0);
            s.due("acts", x.count(11), 1);
        }
        TideCastle late = Check.on("beach 2 2;flag 0 20 5;flag 3 20 5;wave 0");
        late.wave();
        late.wave();
        late.move(0, 1);
        s.due("where it was put", late.give(0), 3);
        s.due("where it was put", late.cell(1, 0), 3);

        s.of(12, "HEIGHT of its cell then; NONE, and nothing happens, without a FLAG that stands");
        String seen = Sentences.seen(late);
        for (int flag : new int[] {0, 2, 5, 6, -1, MIN, MAX}) {
            s.due("give(" + flag + ")", late.give(flag), -1);
        }
        s.same("refused gives", Sentences.seen(late), seen);
        s.due("without a beach", new TideCastle().give(0), -1);
    }

    private void moves() {
        s.of(13, "MOVE (a FLAG that stands is put into another cell)");
        TideCastle x = Check.on("beach 2 3;flag 0 20 1;flag 5 1 1;flag 5 20 1;wave 4");
        s.due("to the last", x.move(0, 5), 0);
        s.due("its cell", x.flag(0, 0), 5);
        s.due("three in one cell", x.cell(5, 2), 7);
        s.due("to the first", x.move(2, 0), 5);
        s.due("acts", x.count(11), 2);
        s.due("no sand goes", x.count(9), 12);
        x.wave();
        s.due("one fell", x.count(8), 5);

        s.of(13, "the cell where it was; NONE, and nothing happens, without these (another cell)");
        String seen = Sentences.seen(x);
        int[][] off = {{0, 5}, {2, 0}, {1, 0}, {1, 5}, {0, 6}, {0, -1}, {0, MAX}, {0, MIN}, {3, 0},
            {-1, 0}, {6, 0}, {MAX, 0}, {MIN, 0}};
        for (int[] o : off) {
            s.due("move(" + o[0] + ", " + o[1] + ")", x.move(o[0], o[1]), -1);
        }
        s.same("refused moves", Sentences.seen(x), seen);
        x.give(0);
        s.due("one given up", x.move(0, 1), -1);
        s.due("without a beach", new TideCastle().move(0, 0), -1);
    }

    private static void act(TideCastle x, int which) {
        switch (which) {
            case 0:
                x.wave();
                break;
            case 1:
                x.spade(0, 1);
                break;
            case 2:
                x.give(1);
                break;
            case 3:
                x.move(0, 1);
                break;
            default:
                x.spade(3, 0);
                break;
        }
    }

    private void undone() {
        s.of(14, "The last ACT is UNDONE: how many more can be");
        String beach = "beach 2 2;row 33;row 33;wave 9;wave 2;flag 2 5 1;flag 2 6 10;flag 0 9 50";
        for (int which = 0; which < 5; which++) {
            TideCastle x = Check.on(beach);
            x.wave();
            x.undo();
            x.spade(3, 0);
            String seen = Sentences.seen(x);
            act(x, which);
            s.other("act " + which, Sentences.seen(x), seen);
            s.due("undo of act " + which, x.undo(), 1);
            s.same("undo of act " + which, Sentences.seen(x), seen);
        }
        TideCastle y = Check.on(beach);
        int[] acts = {3, 1, 2, 0, 4, 0, 4};
        String[] seen = new String[acts.length];
        for (int i = 0; i < acts.length; i++) {
            seen[i] = Sentences.seen(y);
            act(y, acts[i]);
        }
        for (int i = acts.length - 1; i >= 0; i--) {
            s.due("undo of the last", y.undo(), i);
            s.same("undo of the last", Sentences.seen(y), seen[i]);
        }

        s.of(14, "-2, and nothing happens: none can");
        s.due("none", y.undo(), -2);
        s.same("none", Sentences.seen(y), seen[0]);
        s.due("without a beach", new TideCastle().undo(), -2);
        TideCastle z = Check.on(beach);
        z.seed(5);
        z.log(0, 0, 1);
        Check.rule(z, "take 1");
        z.force(0);
        z.image(0);
        s.due("what is no act", z.undo(), -2);
        s.due("x, logs, rule", z.count(12) * 100 + z.count(10) * 10 + z.count(5), 510);
        z.wave();
        z.force(-1);
        z.seed(7);
        z.log(0, 0, 2);
        s.due("a wave", z.undo(), 0);
        s.due("not with it what is no act", z.count(12) * 100 + z.count(10) * 10 + z.count(5), 719);
    }

    private void lastTwenty() {
        s.of(14, "The last 20 ACTS can be UNDONE, the last first");
        for (int acts = 18; acts <= 43; acts++) {
            TideCastle x = Check.on("beach 2 2;flag 0 20 1;wave 0");
            for (int i = 0; i < acts; i++) {
                x.wave();
                s.due("after " + (i + 1), x.count(11), Math.min(20, i + 1));
            }
            for (int i = Math.min(20, acts) - 1; i >= 0; i--) {
                s.due("of " + acts, x.undo(), i);
            }
            s.due("the wave to come", x.count(6), Math.max(0, acts - 20));
            s.due("no more", x.undo(), -2);
            s.due("the wave to come", x.count(6), Math.max(0, acts - 20));
        }
        TideCastle y = Check.on("beach 2 2;flag 0 20 1;wave 0");
        for (int i = 0; i < 20; i++) {
            y.wave();
        }
        for (int i = 0; i < 5; i++) {
            y.undo();
        }
        for (int i = 0; i < 7; i++) {
            y.move(0, i % 2 == 0 ? 3 : 1);
        }
        s.due("undone and done anew", y.count(11), 20);
        for (int i = 0; i < 20; i++) {
            y.undo();
        }
        s.due("two are out of reach", y.count(6), 2);
        s.due("none can", y.undo(), -2);
    }
}
