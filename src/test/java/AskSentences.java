/** Sentences on what is asked of WAVES to come and of FLAGS (Terms, part III; promises 15 to 24). */
final class AskSentences {
    private static final int MIN = Integer.MIN_VALUE;
    private static final int MAX = Integer.MAX_VALUE;
    // STRENGTHS of WAVE 0: 0 0 0 / 2 3 2 / 4 5 4. In it flag 0 falls; flag 1 stands for good.
    private static final String BAY =
            "beach 3 3;row 555;row 212;row 101;flag 4 3 10;flag 0 9 1;wave 6;wave 3;swell 2 1 1";
    // The only way to the flag leads over cell 2; nothing comes over the 9s of the other column.
    private static final String GATE = "beach 2 2;row 09;row 09;flag 0 20 5;wave ";
    // No SPADE can be dug at all.
    private static final String PLATEAU = "beach 2 2;row 99;row 99;flag 0 20 5;wave 0";
    private final Sentences s;

    private AskSentences(Sentences s) {
        this.s = s;
    }

    static void all(Sentences s) {
        AskSentences a = new AskSentences(s);
        a.nothingChanges();
        a.asTold();
        a.ways();
        a.wayRefused();
        a.ahead();
        a.falls();
        a.digOrder();
        a.digTwo();
        a.digRefused();
        a.rival();
        a.rivalRefused();
        a.wallSets();
        a.wallRefused();
        a.high();
        a.highRefused();
        a.odds();
        a.giveUp();
        a.giveUpRefused();
        a.borne();
    }

    /** Every call that only asks, with what it is asked for in its range. */
    private static int ask(TideCastle x) {
        int sum = 0;
        for (int what = 0; what < 4; what++) {
            sum += x.cell(4, what) + x.flag(0, what) + x.dig(2, 3, what);
        }
        for (int what = 0; what < 2; what++) {
            sum += x.ahead(4, 100, what) + x.rival(3, what) + x.wall(1, what) + x.odds(1, what)
                    + x.giveUp(60, what) + x.ruled(what) + x.look(60, what) + x.tides(10, 60, what);
        }
        sum += x.ahead(0, 7, 2) + x.way(4, 1) + x.falls(1) + x.high(1, 4) + x.borne(1) + x.forceOf(7);
        return sum;
    }

    private void nothingChanges() {
        s.of(16, "By what is asked nothing changes");
        TideCastle x = Check.on(BAY, "take 1 if strength>2");
        Check.rule(x, "take 2");
        x.spade(0, 1);
        x.log(1, 4, 0);
        x.seed(12345);
        x.feed(1, 2, 3, 4, 5);
        String seen = Sentences.seen(x);
        int first = ask(x);
        s.same("all that asks", Sentences.seen(x), seen);
        s.due("the same once more", ask(x), first);
        x.wave();
        String later = Sentences.seen(x);
        ask(x);
        s.same("all that asks, a wave later", Sentences.seen(x), later);
        s.due("undo of the wave", x.undo(), 1);
        s.same("undo of the wave", Sentences.seen(x), seen);
    }

    private void asTold() {
        s.of(16, "WAVES come as told, by the RULE IN FORCE");
        String beach = "beach 2 2;row 99;row 99;flag 0 20 5;wave 20;wave 0;swell 9 1 9";
        TideCastle x = Check.on(beach, "take 2");
        int[] heights = {9, 7, 7, 5, 5, 3};
        for (int n = 0; n < heights.length; n++) {
            s.due("height ahead of wave " + n, x.ahead(0, n, 0), heights[n]);
        }
        x.force(-1);
        s.due("by none", x.ahead(0, 5, 0), 6);
        Check.rule(x, "take 0");
        s.due("not by one that is not in force", x.ahead(0, 5, 0), 6);
        x.force(1);
        s.due("by the other", x.ahead(0, 5, 0), 9);
        x.wave();
        s.due("from the wave to come on", x.force(0) * 100 + x.ahead(0, 1, 0), 109);
    }

    private void way(TideCastle x, int cell, int... cells) {
        for (int k = 0; k < cells.length; k++) {
            s.due("way to " + cell + ", " + k, x.way(cell, k), cells[k]);
        }
        s.due("way to " + cell + ", no more", x.way(cell, cells.length), -2);
    }

    private void ways() {
        s.of(15, "the cells along which it is so strong there, from the sea on");
        TideCastle x = Check.on(BAY);
        way(x, 7, 7);
        way(x, 4, 7, 4);
        way(x, 3, 6, 3);
        String snake = "beach 5 5;row 09999;row 00000;row 99990;row 00000;row 09999;wave 20";
        way(Check.on(snake), 0, 20, 15, 16, 17, 18, 19, 14, 9, 8, 7, 6, 5, 0);
        way(Check.on("beach 3 3;row 000;row 090;row 099;wave 12"), 5, 6, 3, 0, 1, 2, 5);

        s.of(15, "each time back the sea, if it comes from there so strong, else the cell beside of the "
                + "least number");
        // Cell 4 by 3 on its left or 5 on its right.
        way(Check.on("beach 3 3;row 999;row 000;row 090;wave 12"), 4, 6, 3, 4);
        // Cell 0 by 1 on its right or 2 below.
        way(Check.on("beach 2 2;row 00;row 10;wave 9"), 0, 3, 1, 0);
        way(Check.on("beach 3 2;row 000;row 090;wave 9"), 1, 3, 0, 1);
        // Beside the sea it comes from there, as many low cells as there are beside.
        way(Check.on("beach 3 2;row 000;row 030;wave 9"), 4, 4);
        way(Check.on("beach 2 2;row 00;row 00;wave 2"), 3, 3);
    }

    private void wayRefused() {
        s.of(15, "the k-th cell (0 and on) from the sea on; -2: so many there are not; NONE without these "
                + "(k 0 and on)");
        TideCastle x = Check.on(BAY);
        s.due("where it does not come", x.way(0, 0), -2);
        s.due("where it does not come", x.way(0, 5), -2);
        s.due("k 2", x.way(4, 2), -2);
        s.due("k MAX", x.way(4, MAX), -2);
        s.due("k -1", x.way(4, -1), -1);
        s.due("k -1, where it does not come", x.way(0, -1), -1);
        s.due("k MIN", x.way(4, MIN), -1);
        s.due("cell -1", x.way(-1, 0), -1);
        s.due("cell 9", x.way(9, 0), -1);
        s.due("cell MAX", x.way(MAX, 0), -1);
        s.due("cell MIN", x.way(MIN, MIN), -1);
        s.due("without a beach", new TideCastle().way(0, 0), -1);
        TideCastle calm = Check.on("beach 2 2;row 00;row 00;wave 1");
        for (int c = 0; c < 4; c++) {
            s.due("to none", calm.way(c, 0), -2);
        }
        s.due("to the last cell", Check.on("beach 5 5;wave 20").way(24, 0), 24);
    }

    private void ahead() {
        s.of(16, "AHEAD n WAVES (0 to 100): HEIGHT of a cell, MARKS, FLAGS that stand");
        TideCastle x = Check.on("beach 2 2;row 99;row 99;flag 0 20 5;flag 3 20 2;wave 20",
                "take 1 if wave=99 or wave=100;take 9 if wave=98 and cell=3");
        s.due("height at once", x.ahead(0, 0, 0), 9);
        s.due("height after 98", x.ahead(0, 98, 0), 9);
        s.due("height after 100", x.ahead(0, 100, 0), 8);
        s.due("height of 3 after 99", x.ahead(3, 99, 0), 6);
        s.due("marks at once", x.ahead(0, 0, 1), 0);
        s.due("marks after 1", x.ahead(0, 1, 1), 7);
        s.due("marks after 100", x.ahead(0, 100, 1), 700);
        s.due("flags at once", x.ahead(0, 0, 2), 3);
        s.due("flags after 100", x.ahead(0, 100, 2), 3);
        x.wave();
        s.due("height after 100 more", x.ahead(0, 100, 0), 7);
        s.due("marks, with those got", x.ahead(0, 100, 1), 707);
        s.due("flags, one has fallen", Check.on(BAY).ahead(0, 1, 2), 2);

        s.of(16, "1: MARKS, 2: FLAGS that stand, as bits. NONE without these.");
        for (int n : new int[] {-1, -2, 101, 102, MIN, MAX}) {
            for (int what = 0; what < 3; what++) {
                s.due("ahead(0, " + n + ", " + what + ")", x.ahead(0, n, what), -1);
            }
        }
        for (int what : new int[] {-1, 3, 4, MIN, MAX}) {
            s.due("what " + what, x.ahead(0, 1, what), -1);
        }
        for (int cell : new int[] {-1, 4, 24, MIN, MAX}) {
            s.due("cell " + cell, x.ahead(cell, 1, 0), -1);
        }
        for (int what = 0; what < 3; what++) {
            s.due("without a beach", new TideCastle().ahead(0, 0, what), -1);
        }
    }

    private void falls() {
        s.of(17, "FALLS of a FLAG: the WAVE in which it does (60 are looked at)");
        String beach = "beach 2 2;row 99;row 99;flag 0 20 1;wave 20";
        s.due("in the first", Check.on(beach + ";flag 2 10 1").falls(1), 0);
        s.due("in the third", Check.on(beach, "take 3").falls(0), 2);
        s.due("in the 60th", Check.on(beach, "take 3 if wave>56").falls(0), 59);
        TideCastle x = Check.on(beach, "take 3 if wave>57");
        s.due("in the 61st", x.falls(0), -2);
        x.wave();
        s.due("in the 60th from there on", x.falls(0), 60);

        s.of(17, "-2: not in these; -3: it does not stand; NONE without that FLAG");
        TideCastle y = Check.on(BAY);
        s.due("never", y.falls(1), -2);
        y.wave();
        s.due("it fell", y.falls(0), -3);
        y.give(1);
        s.due("it was given up", y.falls(1), -3);
        for (int flag : new int[] {2, 5, 6, -1, MIN, MAX}) {
            s.due("flag " + flag, y.falls(flag), -1);
        }
        s.due("without a beach", new TideCastle().falls(0), -1);
    }

    private void dug(TideCastle x, int k, int n, int... want) {
        for (int what = 0; what < 4; what++) {
            s.due("dig(" + k + ", " + n + ", " + what + ")", x.dig(k, n, what), want[what]);
        }
    }

    /** The flag in the middle of nine cells, 2 high, is lost unless a cell beside is so high. */
    private static TideCastle middle(String firstRow, int high) {
        return Check.on("beach 3 3;row " + firstRow + ";flag 4 20 10;wave 20",
                "take 3 if cell=4 and high<" + high);
    }

    private void digOrder() {
        s.of(18, "rows of SPADES now, k at most, one behind the other, by which n WAVES on MARKS are most");
        TideCastle low = Check.on("beach 2 2;row 12;row 22;flag 0 9 10;wave 9");
        dug(low, 1, 1, 10, 1, 7, -2);
        dug(low, 1, 2, 10, 1, 7, -2);
        dug(low, 2, 2, 20, 2, 7, 7);
        // The second SPADE has its sand from the first, and could not be the first.
        TideCastle far = Check.on("beach 2 2;row 10;row 05;flag 0 9 10;wave 9");
        dug(far, 1, 1, 0, 0, -2, -2);
        dug(far, 2, 1, 10, 2, 12, 7);
        // The flag's cell loses 1 in each WAVE; each spadeful more lets it stand a WAVE longer.
        TideCastle sinking = Check.on("beach 2 2;row 42;row 22;flag 0 20 10;wave 20", "take 1 if cell=0");
        dug(sinking, 1, 3, 30, 0, -2, -2);
        dug(sinking, 1, 6, 40, 1, 7, -2);
        dug(sinking, 2, 6, 50, 2, 7, 7);
        // Beside the sea, by what is beside it alone.
        TideCastle last = Check.on("beach 2 2;row 00;row 15;flag 2 20 10;wave 20", "take 1 if cell=2");
        dug(last, 2, 6, 20, 2, 15, 15);
        // Cell 4 is full, so that the second SPADE, from 1 down to it, could not be the first.
        TideCastle full = Check.on("beach 3 3;row 252;row 090;row 010;flag 7 20 10;wave 20",
                "take 3 if cell=7 and [height<2 or high<9]");
        dug(full, 1, 1, 0, 0, -2, -2);
        dug(full, 2, 1, 10, 2, 18, 6);
        low.spade(1, 3);
        low.wave();
        // Cell 1 has no more; MARKS are all there are by then.
        dug(low, 1, 1, 20, 1, 8, -2);

        s.of(18, "of several the fewest SPADES");
        dug(Check.on("beach 2 2;flag 0 9 3;wave 0"), 2, 6, 18, 0, -2, -2);
        dug(Check.on("beach 2 2"), 2, 6, 0, 0, -2, -2);
        dug(Check.on(PLATEAU), 2, 6, 30, 0, -2, -2);
        dug(middle("222", 3), 2, 1, 10, 1, 1, -2);
        dug(Check.on("beach 2 2;flag 2 1 5;wave 20"), 2, 6, 0, 0, -2, -2);

        s.of(18, "of these the first row (by cells they are taken from, then SIDES");
        // By cell 0 to the right or down, by cell 4 itself up, and many more.
        dug(middle("222", 3), 1, 1, 10, 1, 1, -2);
        // From cell 0 there is nothing to take: from cell 2 down is ahead of to the left.
        dug(middle("022", 3), 1, 1, 10, 1, 10, -2);
        // Neither from 0 nor from 2: from 4 up is ahead of from 4 to the right.
        TideCastle own = Check.on("beach 3 3;row 000;row 020;row 000;flag 4 20 10;wave 20",
                "take 3 if cell=4 and high<1");
        dug(own, 1, 1, 10, 1, 16, -2);
    }

    private void digTwo() {
        s.of(18, "of these the first row (by cells they are taken from, then SIDES");
        dug(middle("222", 4), 2, 1, 10, 2, 1, 1);
        // Cell 0 has 1 alone: the second comes from cell 2 to the left.
        dug(middle("122", 4), 2, 1, 10, 2, 1, 11);
        dug(middle("122", 4), 1, 1, 0, 0, -2, -2);

        s.of(18, "the first, the second of them: 4 times the cell and the SIDE (-2: there is none)");
        // Two of cell 1 down into the flag's own: 1 of its 4 is left.
        dug(middle("022", 4), 2, 1, 10, 2, 6, 6);
        dug(middle("222", 3), 1, 1, 10, 1, 1, -2);
        dug(Check.on(PLATEAU), 1, 1, 5, 0, -2, -2);
    }

    private void digRefused() {
        s.of(18, "DIG for k spadefuls (1 or 2) and n WAVES (1 to 6)");
        TideCastle x = Check.on("beach 2 2;flag 0 9 3;wave 0");
        for (int n = 1; n <= 6; n++) {
            s.due("n " + n, x.dig(1, n, 0), 3 * n);
            s.due("n " + n, x.dig(2, n, 0), 3 * n);
        }
        for (int off : new int[] {0, -1, 3, 4, MIN, MAX}) {
            s.due("k " + off, x.dig(off, 1, 0), -1);
        }
        for (int off : new int[] {0, -1, 7, 8, MIN, MAX}) {
            s.due("n " + off, x.dig(1, off, 0), -1);
            s.due("n " + off, x.dig(2, off, 0), -1);
        }

        s.of(18, "NONE without these, or a BEACH.");
        for (int off : new int[] {-1, 4, 5, MIN, MAX}) {
            s.due("what " + off, x.dig(1, 1, off), -1);
        }
        for (int what = 0; what < 4; what++) {
            s.due("without a beach", new TideCastle().dig(1, 1, what), -1);
        }
    }

    private void rivals(TideCastle x, int n, int marks, int spade) {
        s.due("rival(" + n + ", 0)", x.rival(n, 0), marks);
        s.due("rival(" + n + ", 1)", x.rival(n, 1), spade);
    }

    private void rival() {
        s.of(19, "one SPADE now, or none, then one of the rival's, or none, by which the latter makes "
                + "MARKS n WAVES on least, the former that most: how much");
        // The flag's last sand could be taken: one more from cell 1 helps.
        TideCastle thin = Check.on("beach 2 2;row 12;row 22;flag 0 9 10;wave 0");
        rivals(thin, 1, 10, 7);
        rivals(thin, 6, 60, 7);
        thin.wave();
        rivals(thin, 6, 70, 7);
        // 4 of sand, 1 more by the one, 1 less by the other, and 1 less in each WAVE.
        TideCastle sinking = Check.on("beach 2 2;row 42;row 22;flag 0 20 10;wave 20", "take 1 if cell=0");
        rivals(sinking, 6, 30, 7);
        // The rival would take from the last cell.
        rivals(Check.on("beach 2 2;row 22;row 21;flag 3 9 10;wave 0"), 4, 40, 6);
        // No SPADE of either.
        rivals(Check.on(PLATEAU), 6, 30, -1);
        // All beside the flag's cell is full: the rival has none that harms.
        rivals(Check.on("beach 2 2;row 29;row 99;flag 0 20 5;wave 0"), 6, 30, -1);
        // Against the rival one more is not enough: the wave takes 1, the rival 1, and 1 was there.
        rivals(Check.on("beach 2 2;row 12;row 22;flag 0 9 10;wave 9"), 1, 0, -1);
        rivals(Check.on("beach 2 2;row 22;row 22;flag 0 9 10;wave 9"), 1, 10, 7);

        s.of(19, "the first SPADE (none ahead of all)");
        TideCastle asked = Check.on("beach 2 2;row 12;row 22;flag 0 9 10;wave 9");
        s.due("by dig it is 7", asked.dig(1, 1, 2), 7);
        s.due("here it is none", asked.rival(1, 1), -1);
        rivals(Check.on("beach 2 2;flag 0 9 3;wave 0"), 6, 18, -1);
        rivals(Check.on("beach 2 2"), 6, 0, -1);
        // From 1 to the left or from 2 up: both help.
        rivals(Check.on("beach 2 2;row 13;row 33;flag 0 9 10;wave 0"), 2, 20, 7);
        // From 2 alone.
        rivals(Check.on("beach 2 2;row 10;row 33;flag 0 9 10;wave 0"), 2, 20, 8);
    }

    private void rivalRefused() {
        s.of(19, "RIVAL for n WAVES (1 to 6)");
        TideCastle x = Check.on("beach 2 2;flag 0 9 3;wave 0");
        for (int n = 1; n <= 6; n++) {
            s.due("n " + n, x.rival(n, 0), 3 * n);
        }
        for (int off : new int[] {0, -1, 7, 8, MIN, MAX}) {
            s.due("n " + off, x.rival(off, 0), -2);
            s.due("n " + off, x.rival(off, 1), -2);
        }

        s.of(19, "4 times the cell and the SIDE (NONE: none). -2 without these, or a BEACH.");
        s.due("none", x.rival(1, 1), -1);
        for (int off : new int[] {-1, 2, 3, MIN, MAX}) {
            s.due("what " + off, x.rival(1, off), -2);
        }
        s.due("without a beach", new TideCastle().rival(1, 0), -2);
        s.due("without a beach", new TideCastle().rival(1, 1), -2);
    }

    private void walls(String beach, int many, int bits) {
        s.due("wall of \"" + beach + "\"", Check.on(beach).wall(0, 0), many);
        s.due("wall of \"" + beach + "\"", Check.on(beach).wall(0, 1), bits);
    }

    private void wallSets() {
        s.of(20, "the fewest other cells (3 at most) so that, if they were 9 high, the WAVE to come would "
                + "not come to its cell");
        walls("beach 2 2;row 09;row 09;flag 0 20 5;wave 2", 0, 0);
        walls(GATE + 3, 1, 4);
        walls(GATE + 11, 1, 4);
        // 2 in the wall is 1 behind it.
        walls(GATE + 12, -2, -2);
        walls("beach 2 2;row 00;row 00;flag 2 20 5;wave 9", -2, -2);
        walls("beach 2 2;row 00;row 00;flag 0 20 5;wave 9", 2, 6);
        walls("beach 3 3;row 000;row 000;row 000;flag 4 20 5;wave 9", 3, 8 | 32 | 128);
        String flat = "beach 5 5" + ";row 00000".repeat(5) + ";flag 12 20 5;wave ";
        walls(flat + 10, -2, -2);
        // Its four sides would do, but are more than 3.
        walls("beach 4 3;row 0000;row 0000;row 0000;flag 5 20 5;wave 10", -2, -2);
        // Three of its four sides, while the long way to the fourth is too long.
        walls(flat + 7, 3, 1 << 11 | 1 << 13 | 1 << 17);
        TideCastle turns = Check.on("beach 2 2;row 19;row 19;flag 0 20 5;wave 3;wave 4");
        s.due("the wave to come, of 3", turns.wall(0, 0), 0);
        turns.wave();
        s.due("the wave to come, of 4", turns.wall(0, 0) * 10 + turns.wall(0, 1), 14);

        s.of(20, "of several sets the least (of which the greatest cell is least, then the next one)");
        walls("beach 2 3;row 00;row 00;row 00;flag 0 9 1;wave 5", 2, 2 | 4);
        // Cell 0 or cell 2 alone would do.
        walls("beach 2 2;row 00;row 09;flag 1 20 5;wave 5", 1, 1);
        // Each of 2, 4, 6, 8 alone would do.
        walls("beach 2 5;row 09;row 09;row 09;row 09;row 09;flag 0 20 5;wave 9", 1, 4);
        // 5, 6 and 7 would do as well, but 6 is behind 3.
        walls("beach 3 3;row 999;row 000;row 000;flag 4 20 5;wave 9", 3, 8 | 32 | 128);
        // 9 and 10 would do as well, but are more.
        walls("beach 4 3;row 9999;row 0009;row 9009;flag 4 20 5;wave 9", 1, 32);
    }

    private void wallRefused() {
        s.of(20, "0: how many cells, 1: these, as bits; -2: there are none such; NONE without a FLAG that "
                + "stands");
        TideCastle x = Check.on(BAY);
        for (int what : new int[] {-1, 2, MIN, MAX}) {
            s.due("what " + what, x.wall(0, what), -1);
        }
        for (int flag : new int[] {2, 5, 6, -1, MIN, MAX}) {
            s.due("flag " + flag, x.wall(flag, 0), -1);
            s.due("flag " + flag, x.wall(flag, 1), -1);
        }
        x.wave();
        s.due("it fell", x.wall(0, 0), -1);
        x.give(1);
        s.due("it was given up", x.wall(1, 0), -1);
        s.due("without a beach", new TideCastle().wall(0, 0), -1);
    }

    private void high() {
        s.of(21, "how high another cell is to be at least (as high as it is, or more, 9 at most), so that "
                + "the WAVE to come, with 1 more of FORCE, does not come to the FLAG's cell");
        // 1 more of FORCE less 1 less the height less 1 is to be below 1.
        for (int force = 0; force <= 20; force++) {
            int want = force <= 1 ? 0 : force <= 10 ? force - 1 : -2;
            s.due("by force " + force, Check.on(GATE + force).high(0, 2), want);
        }
        String over = "beach 2 2;row 09;row 59;flag 0 20 5;wave ";
        s.due("as high as it is", Check.on(over + 0).high(0, 2), 5);
        s.due("as high as it is", Check.on(over + 6).high(0, 2), 5);
        s.due("1 more", Check.on(over + 7).high(0, 2), 6);
        s.due("up to 9", Check.on(over + 10).high(0, 2), 9);
        s.due("not by 9", Check.on(over + 11).high(0, 2), -2);
        TideCastle top = Check.on("beach 2 2;row 09;row 99;flag 0 20 5;wave 10");
        s.due("9 as it is", top.high(0, 2), 9);
        s.due("9 as it is", top.high(0, 3), 9);
        // A pit keeps off what it lets by once it is filled.
        TideCastle pit = Check.on("beach 2 3;row 59;row 09;row 59;flag 0 9 1;wave 11");
        s.due("a pit", pit.high(0, 2), 0);
    }

    private void highRefused() {
        s.of(21, "HIGH; -2: not by this cell; NONE without these (a FLAG that stands, another cell than "
                + "its own)");
        TideCastle x = Check.on(GATE + 5 + ";flag 2 1 1");
        s.due("not by 1", x.high(0, 1), -2);
        s.due("not by 3", x.high(0, 3), -2);
        s.due("beside the sea", x.high(1, 0), -2);
        s.due("its own", x.high(0, 0), -1);
        s.due("its own", x.high(1, 2), -1);
        for (int cell : new int[] {-1, 4, 24, MIN, MAX}) {
            s.due("cell " + cell, x.high(0, cell), -1);
        }
        for (int flag : new int[] {2, 5, 6, -1, MIN, MAX}) {
            s.due("flag " + flag, x.high(flag, 1), -1);
        }
        x.wave();
        s.due("it fell", x.high(1, 0), -1);
        s.due("without a beach", new TideCastle().high(0, 1), -1);
        TideCastle y = Check.on(GATE + 5);
        y.move(0, 1);
        s.due("its own of late", y.high(0, 1), -1);
        s.due("not its own any longer", y.high(0, 0), 0);
        y.give(0);
        s.due("it was given up", y.high(0, 2), -1);
    }

    private void chances(int force, String swell, int above, int below) {
        TideCastle x = Check.on("beach 2 2;row 99;row 22;flag 2 3 7;wave " + force + ";swell " + swell);
        s.due("odds by " + force + ", " + swell + ", above", x.odds(0, 0), above);
        s.due("odds by " + force + ", " + swell + ", below", x.odds(0, 1), below);
    }

    private void odds() {
        s.of(22, "that it FALLS in the WAVE to come, by the swell: a fraction in lowest terms");
        // It falls by FORCE 6 and more.
        chances(4, "9 9 9", 0, 1);
        chances(5, "9 9 9", 1, 3);
        chances(6, "9 9 9", 2, 3);
        chances(7, "9 9 9", 1, 1);
        chances(5, "1 2 3", 1, 2);
        chances(6, "1 2 3", 5, 6);
        chances(5, "0 9 0", 0, 1);
        chances(6, "0 9 0", 1, 1);
        chances(5, "9 8 7", 7, 24);
        chances(6, "9 8 7", 5, 8);
        chances(5, "4 0 8", 2, 3);
        chances(5, "9 0 0", 0, 1);
        TideCastle calm = Check.on("beach 2 2;row 02;flag 0 20 1;flag 1 20 1;wave 0;swell 9 9 9");
        s.due("of force 0, on no sand", calm.odds(0, 0) * 10 + calm.odds(0, 1), 11);
        s.due("of force 0, on sand", calm.odds(1, 0) * 10 + calm.odds(1, 1), 1);
        TideCastle most = Check.on("beach 2 2;row 99;row 22;flag 2 18 7;wave 20;swell 1 1 1");
        s.due("1 more than 20", most.odds(0, 0) * 10 + most.odds(0, 1), 13);
        TideCastle byRule = Check.on("beach 2 2;row 33;row 33;flag 0 20 1;wave 9;swell 3 2 1",
                "take 3 if force=8");
        s.due("by the rule in force", byRule.odds(0, 0) * 10 + byRule.odds(0, 1), 12);

        s.of(22, "ODDS part 0: above, 1: below the line; NONE without a FLAG that stands");
        TideCastle x = Check.on(BAY);
        for (int part : new int[] {-1, 2, MIN, MAX}) {
            s.due("part " + part, x.odds(0, part), -1);
        }
        for (int flag : new int[] {2, 5, 6, -1, MIN, MAX}) {
            s.due("flag " + flag, x.odds(flag, 0), -1);
        }
        x.wave();
        s.due("it fell", x.odds(0, 0), -1);
        x.give(1);
        s.due("it was given up", x.odds(1, 1), -1);
        s.due("without a beach", new TideCastle().odds(0, 0), -1);
    }

    private void given(String beach, int n, int flag, int marks) {
        TideCastle x = Check.on(beach);
        s.due("giveUp(" + n + ", 0) of \"" + beach + "\"", x.giveUp(n, 0), flag);
        s.due("giveUp(" + n + ", 1) of \"" + beach + "\"", x.giveUp(n, 1), marks);
    }

    private void giveUp() {
        s.of(23, "the FLAG to be given up now by which MARKS are most n WAVES on (1 to 60; those of that "
                + "FLAG are 0 from then on), or none");
        // By one more of sand the other flag of the cell stands a wave longer.
        given("beach 2 2;row 12;row 22;flag 0 9 10;flag 0 9 1;wave 9", 1, 1, 10);
        given("beach 2 2;row 12;row 22;flag 0 9 1;flag 0 9 10;wave 9", 1, 0, 10);
        given("beach 2 2;row 12;row 22;flag 0 9 10;flag 0 9 1;wave 9", 60, 1, 10);
        // Both stand a wave anyway: 11, and once more 10 by giving up the lesser.
        given("beach 2 2;row 22;row 22;flag 0 9 10;flag 0 9 1;wave 9", 1, -1, 11);
        given("beach 2 2;row 22;row 22;flag 0 9 10;flag 0 9 1;wave 9", 2, 1, 20);
        given("beach 2 2;flag 0 9 4;wave 0", 60, -1, 240);
        TideCastle sinking = Check.on("beach 2 2;row 42;row 22;flag 0 20 10;flag 0 20 1;wave 20",
                "take 1 if cell=0");
        s.due("33 or 40", sinking.giveUp(6, 0) * 100 + sinking.giveUp(6, 1), 140);
        s.due("33 or 30", sinking.giveUp(3, 0) * 100 + sinking.giveUp(3, 1), -67);
        // 9 at most: nothing is won.
        given("beach 2 2;row 99;row 99;flag 0 9 10;flag 0 20 1;wave 20", 1, -1, 1);
        TideCastle x = Check.on("beach 2 2;flag 0 9 4;wave 0");
        x.wave();
        s.due("with those got", x.giveUp(60, 1), 244);

        s.of(23, "of several none, then the least");
        TideCastle asked = Check.on("beach 2 2;row 12;row 22;flag 0 9 10;wave 9");
        s.due("by dig it is 7", asked.dig(1, 1, 2), 7);
        s.due("here it is none", asked.giveUp(1, 0), -1);
        given("beach 2 2;row 12;row 22;flag 0 9 4;flag 0 9 4;wave 9", 1, 0, 4);
        given("beach 2 2;row 12;row 22;flag 3 1 1;flag 0 9 4;flag 0 9 4;flag 0 9 4;wave 9", 1, 1, 8);
        // The flag falls, or is given up: 0 all the same.
        given("beach 2 2;row 12;row 22;flag 0 9 4;wave 9", 1, -1, 0);
        given("beach 2 2", 1, -1, 0);
    }

    private void giveUpRefused() {
        s.of(23, "GIVE UP what 0: the FLAG (NONE: none), 1: MARKS. -2 without these, or a BEACH.");
        TideCastle x = Check.on("beach 2 2;flag 0 9 4;wave 0");
        s.due("n 1", x.giveUp(1, 1), 4);
        s.due("n 60", x.giveUp(60, 1), 240);
        for (int n : new int[] {0, -1, 61, 62, MIN, MAX}) {
            s.due("n " + n, x.giveUp(n, 0), -2);
            s.due("n " + n, x.giveUp(n, 1), -2);
        }
        for (int what : new int[] {-1, 2, MIN, MAX}) {
            s.due("what " + what, x.giveUp(1, what), -2);
        }
        s.due("without a beach", new TideCastle().giveUp(1, 0), -2);
        s.due("without a beach", new TideCastle().giveUp(1, 1), -2);
        x.give(0);
        s.due("none stands", x.giveUp(1, 0), -1);
        s.due("none stands", x.giveUp(1, 1), 0);
    }

    private void borne() {
        s.of(24, "the greatest FORCE (0 to 40) of the WAVE to come by which it would not FALL, if it does "
                + "not by any less one; -1: by none");
        // FORCE less 1 less 2 in cell 2.
        for (int stand = 1; stand <= 20; stand++) {
            String beach = "beach 2 2;row 99;row 22;wave 0;flag 2 " + stand + " 1";
            s.due("of stand " + stand, Check.on(beach).borne(0), stand + 2);
        }
        s.due("by none", Check.on("beach 2 2;row 02;flag 0 20 1").borne(0), -1);
        // 20 are lost on the way to cell 0: by 9 up to 4, down to 2, by 8 up to 0, and 3 cells.
        s.due("by 39", Check.on("beach 2 3;row 80;row 09;row 90;flag 0 20 1").borne(0), 39);
        s.due("by 40", Check.on("beach 2 3;row 90;row 09;row 90;flag 0 20 1").borne(0), 40);
        s.due("by all", Check.on("beach 2 5;row 99;row 00;row 99;row 00;row 99;flag 0 20 1").borne(0), 40);
        String deep = "beach 2 2;row 33;row 33;flag 0 20 1;wave 9";
        s.due("not by any less one", Check.on(deep, "take 3 if force=20").borne(0), 19);
        // By FORCE 6 it comes to cell 0 at first: 6 less 1 less 3 less 1.
        s.due("by the least that comes", Check.on(deep, "take 3").borne(0), 5);
        s.due("by the wave's number", Check.on(deep, "take 3 if wave=1").borne(0), 24);

        s.of(24, "BORNE; -2 without a FLAG that stands");
        TideCastle x = Check.on(BAY);
        for (int flag : new int[] {2, 5, 6, -1, MIN, MAX}) {
            s.due("flag " + flag, x.borne(flag), -2);
        }
        x.wave();
        s.due("it fell", x.borne(0), -2);
        x.give(1);
        s.due("it was given up", x.borne(1), -2);
        s.due("without a beach", new TideCastle().borne(0), -2);
    }
}
