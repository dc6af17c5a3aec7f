import java.math.BigInteger;

/** Sentences of promises 1 to 9 and 25 to 32: what is told, seen, drawn and kept. */
final class CallSentences {
    private static final int MIN = Integer.MIN_VALUE;
    private static final int MAX = Integer.MAX_VALUE;
    private static final String CLIFF = "beach 2 2;row 99;row 99;wave 20";
    private static final String BAY =
            "beach 3 3;row 555;row 212;row 101;flag 4 3 10;flag 0 9 1;wave 6;wave 3;swell 2 1 1";
    private final Sentences s;

    private CallSentences(Sentences s) {
        this.s = s;
    }

    static void all(Sentences s) {
        CallSentences c = new CallSentences(s);
        c.fresh();
        c.feed();
        c.end();
        c.beach();
        c.beachRefused();
        c.rule();
        c.ruleRefused();
        c.force();
        c.cell();
        c.flag();
        c.forceOf();
        c.log();
        c.logsThatHold();
        c.ruled();
        c.look();
        c.seed();
        c.draws();
        c.tides();
        c.count();
        c.image();
        c.back();
    }

    private void fresh() {
        s.of(1, "No BEACH, no RULES, none IN FORCE.");
        TideCastle x = new TideCastle();
        for (int what = 0; what <= 13; what++) {
            s.due("count(" + what + ")", x.count(what), what == 5 ? -1 : 0);
        }
        s.due("none in force", x.force(-1), -1);
        s.due("no rule 0", x.force(0), -2);
        for (int k = 0; k < 4; k++) {
            s.due("no image " + k, x.back(k), -1);
        }

        s.of(1, "`NONE = -1`: None.");
        s.due("NONE", TideCastle.NONE, -1);
    }

    private void feed() {
        s.of(2, "Twenty bytes come behind the TAPE, of each number the highest first: how many it has");
        TideCastle x = new TideCastle();
        s.due("feed", x.feed(0x62656163, 0x68203220, 0x323b7761, 0x76652031, 0x373b7761), 20);
        s.due("feed behind", x.feed(0x76652031, 0x383b666c, 0x61672033, 0x20352036, 0x20202020), 40);
        s.due("beach of both", x.beach(), 4);
        s.due("waves 17 and 18, flag 3 5 6", x.forceOf(0) * 100000 + x.forceOf(1) * 1000
                + x.flag(0, 0) * 100 + x.flag(0, 1) * 10 + x.flag(0, 2), 1718356);
        // A byte of 128 or more is one, too, and can't stand anywhere: "be\377ch".
        x.feed(0x6265ff63, 0x68203220, 0x32202020, 0x20202020, 0x20202020);
        s.due("a byte of 255", x.beach(), Check.fault(0, 0));
        x.feed(0x62656163, 0x682032a0, 0x32202020, 0x20202020, 0x20202020);
        s.due("a byte of 160", x.beach(), Check.fault(7, 0));

        s.of(2, "NONE, and none comes, if it would have more than 400");
        for (int i = 1; i <= 20; i++) {
            s.due("feed", x.feed(i, i, i, i, i), 20 * i);
        }
        s.due("beyond 400", x.feed(1, 1, 1, 1, 1), -1);
        s.due("bytes", x.count(13), 400);
        for (int n = 399; n > 380; n--) {
            x.end(n);
            s.due("to " + (n + 20), x.feed(1, 1, 1, 1, 1), -1);
            s.due("bytes", x.count(13), n);
        }
        x.end(380);
        s.due("to 400", x.feed(1, 1, 1, 1, 1), 400);
    }

    private void end() {
        s.of(3, "The TAPE has its first n bytes alone: n");
        TideCastle x = new TideCastle();
        s.due("none of none", x.end(0), 0);
        Check.lay(x, "beach 2 2;wave 1");
        s.due("all", x.end(16), 16);
        s.due("the first 9", x.end(9), 9);
        s.due("bytes", x.count(13), 9);
        s.due("beach of these", x.beach(), 4);
        s.due("no wave was told", x.count(3), 0);
        Check.lay(x, "beach 2 2;wave 1");
        s.due("none", x.end(0), 0);
        s.due("bytes", x.count(13), 0);
        s.due("feed", x.feed(0, 0, 0, 0, 0), 20);

        s.of(3, "NONE, and nothing happens, if it has not so many, or n is below 0");
        for (int n : new int[] {21, 22, 400, MAX, -1, -20, MIN}) {
            s.due("end(" + n + ")", x.end(n), -1);
            s.due("bytes", x.count(13), 20);
        }
        s.due("1 of none", new TideCastle().end(1), -1);
        x.end(5);
        s.due("6 of 5", x.end(6), -1);
    }

    private void beach() {
        s.of(4, "The TAPE, which is empty then, is the BEACH in place of the one there was (no LOGS, nothing "
                + "to be UNDONE; the RULE IN FORCE and x stay): how many cells");
        TideCastle x = Check.on(BAY, "take 1");
        x.seed(77);
        x.wave();
        x.give(1);
        x.log(0, 0, 5);
        s.due("beach", Check.beach(x, "beach 2 5;row 31;flag 1 2 3"), 10);
        int[] want = {2, 5, 1, 0, 1, 0, 0, 0, 1, 20, 0, 0, 77, 0};
        for (int what = 0; what < want.length; what++) {
            s.due("count(" + what + ")", x.count(what), want[what]);
        }
        s.due("none is wet", x.cell(8, 1), 0);
        s.due("its flag stands", x.flag(0, 3), -1);
        s.due("no other flag", x.flag(1, 0), -2);
        s.due("nothing to be undone", x.undo(), -2);
        s.due("no swell", x.odds(0, 1), 1);
        s.due("no waves", x.forceOf(1), 5);
        s.due("the same once more", Check.beach(x, "beach 2 5;row 31;flag 1 2 3"), 10);
        s.due("its first row", x.cell(0, 0) * 10 + x.cell(1, 0), 31);
        String full = "beach 5 5" + ";row 98765".repeat(5) + ";flag 24 1 1".repeat(6) + ";wave 1".repeat(12)
                + ";swell 1 2 3";
        for (int i = 0; i < 3; i++) {
            s.due("a full one", Check.beach(x, full), 25);
            s.due("all heights", x.count(9), 175);
            s.due("flags and waves", x.count(2) * 100 + x.count(3), 612);
            s.due("a small one", Check.beach(x, "beach 2 2;row 11;row 11;swell 0 1 0"), 4);
            s.due("all heights", x.count(9), 4);
            s.due("flags and waves", x.count(2) * 100 + x.count(3), 0);
            s.due("one of no rows", Check.beach(x, "beach 2 2"), 4);
            s.due("all heights", x.count(9), 8);
        }
    }

    private void beachRefused() {
        s.of(4, "-2 - its FAULT, and all stays");
        TideCastle x = Check.on(BAY, "take 1");
        x.seed(77);
        x.wave();
        x.give(1);
        x.log(0, 0, 5);
        String seen = Sentences.seenButTape(x);
        s.due("a fault at the end", Check.beach(x, "beach 5 5;row 11111;flag 0 1 1;wave 3;swell 1 1 1;"),
                Check.fault(50, 0));
        s.same("a fault at the end", Sentences.seenButTape(x), seen);
        s.due("its tape", x.count(13), 0);
        s.due("a fault at once", x.beach(), Check.fault(0, 0));
        s.same("a fault at once", Sentences.seenButTape(x), seen);
        s.due("the swell stays", x.forceOf(0) * 10 + x.forceOf(1), 63);
        TideCastle none = new TideCastle();
        s.due("a fault", Check.beach(none, "beach 5 5;row 1"), Check.fault(15, 0));
        s.due("no beach", none.count(0), 0);
        s.due("no beach", none.cell(0, 0), -1);
    }

    private void rule() {
        s.of(5, "The TAPE, which is empty then, is a RULE: its number");
        TideCastle x = Check.on(CLIFF);
        for (int i = 0; i < 6; i++) {
            s.due("rule " + i, Check.rule(x, "take 1 if cell=" + i % 4 + " and " + i + "<6"), i);
            s.due("its tape", x.count(13), 0);
            s.due("rules", x.count(4), i + 1);
            s.due("not in force", x.count(5), -1);
        }
        for (int i = 0; i < 6; i++) {
            x.force(i);
            for (int c = 0; c < 4; c++) {
                s.due("rule " + i + " on cell " + c, x.ahead(c, 1, 0), c == i % 4 ? 8 : 9);
            }
        }

        s.of(5, "NONE, and nothing happens: there are 6");
        String seen = Sentences.seenButTape(x);
        s.due("a seventh", Check.rule(x, "take 3"), -1);
        s.due("its tape", x.count(13), 6);
        s.same("a seventh", Sentences.seenButTape(x), seen);
        s.due("once more", x.rule(), -1);
        s.due("the tape is told yet", Check.beach(x, "beach 2 2"), 4);
        s.due("of an empty tape", x.rule(), -1);
        s.due("of a fault", Check.rule(x, "x"), -1);
        s.due("its tape", x.count(13), 1);
    }

    private void ruleRefused() {
        s.of(5, "its number; -2 - its FAULT");
        TideCastle x = Check.on(CLIFF, "take 2");
        String seen = Sentences.seen(x);
        s.due("a fault", Check.rule(x, "take 1;take 2 if"), Check.fault(16, 0));
        s.same("a fault", Sentences.seen(x), seen);
        s.due("an empty tape", x.rule(), Check.fault(0, 0));
        s.due("the next number", Check.rule(x, "take 1"), 1);
        s.due("the rule in force", x.ahead(0, 1, 0), 7);
        s.due("without a beach", Check.rule(new TideCastle(), "take 1"), 0);

        // A FAULT in the midst of brackets, a sum or a test leaves nothing behind.
        s.of(5, "The TAPE, which is empty then, is a RULE: its number; -2 - its FAULT");
        TideCastle y = Check.on(CLIFF);
        String deep = "take 3 if cell=9;take 2 if " + "[".repeat(10) + "1=1" + "]".repeat(10);
        for (int i = 0; i < 3; i++) {
            s.due("a fault in brackets", Check.rule(y, "take 1 if 1=1 or 1=2 and [[not [1=1"),
                    Check.fault(35, 0));
            s.due("10 deep", Check.rule(y, deep), 2 * i);
            s.due("60 values", Check.rule(y, "take 60" + "-1".repeat(59)), 2 * i + 1);
            y.force(2 * i);
            s.due("by the one", y.ahead(0, 1, 0), 7);
            y.force(2 * i + 1);
            s.due("by the other", y.ahead(0, 1, 0), 8);
        }
    }

    private void force() {
        s.of(6, "A RULE is IN FORCE (NONE: none): which was; -2, and nothing happens, if there is none such");
        TideCastle x = new TideCastle();
        for (int off : new int[] {0, 1, 5, 6, -2, MIN, MAX}) {
            s.due("force(" + off + ") without rules", x.force(off), -2);
        }
        s.due("none was", x.force(-1), -1);
        for (int i = 0; i < 6; i++) {
            Check.rule(x, "take " + i);
            s.due("the next", x.force(i + 1), -2);
            s.due("the last", x.force(i), i - 1);
        }
        for (int off : new int[] {6, 7, -2, MIN, MAX}) {
            s.due("force(" + off + ")", x.force(off), -2);
            s.due("nothing happened", x.count(5), 5);
        }
        s.due("5 was", x.force(0), 5);
        s.due("0 was", x.force(0), 0);
        s.due("0 was", x.force(-1), 0);
        s.due("none is", x.count(5), -1);
    }

    private void cell() {
        s.of(7, "Of a cell what 0: HEIGHT, 1: 1 if wet, else 0, 2: FLAGS that stand in it, as bits, 3: STRENGTH "
                + "of the WAVE to come. NONE without these.");
        TideCastle x = Check.on("beach 2 2;row 09;row 12" + ";flag 1 20 1".repeat(6) + ";wave 9");
        s.due("height 0", x.cell(0, 0), 0);
        s.due("height 9", x.cell(1, 0), 9);
        s.due("the last cell", x.cell(3, 0), 2);
        s.due("six flags", x.cell(1, 2), 63);
        s.due("no flags", x.cell(0, 2), 0);
        x.give(0);
        x.give(3);
        x.move(5, 0);
        s.due("1, 2 and 4", x.cell(1, 2), 2 | 4 | 16);
        s.due("5", x.cell(0, 2), 32);
        s.due("strength", x.cell(2, 3), 7);
        s.due("strength 0", x.cell(1, 3), 0);
        for (int cell : new int[] {-1, 4, 25, MIN, MAX}) {
            for (int what = 0; what < 4; what++) {
                s.due("cell " + cell, x.cell(cell, what), -1);
            }
        }
        for (int what : new int[] {-1, 4, MIN, MAX}) {
            s.due("what " + what, x.cell(0, what), -1);
        }
        for (int what = 0; what < 4; what++) {
            s.due("without a beach", new TideCastle().cell(0, what), -1);
        }
    }

    private void flag() {
        s.of(8, "0: cell, 1: STAND, 2: MARK, 3: the WAVE in which it fell, or was given up ahead of (NONE: it "
                + "stands). -2 without these.");
        TideCastle x = Check.on("beach 2 2;row 22;row 22;flag 3 20 50;flag 2 1 1;flag 0 20 3;wave 0;wave 9");
        s.due("it stands", x.flag(0, 3), -1);
        x.wave();
        x.wave();
        s.due("fell in 1", x.flag(1, 3), 1);
        s.due("cell of it", x.flag(1, 0), 2);
        s.due("stand of it", x.flag(1, 1), 1);
        s.due("mark of it", x.flag(1, 2), 1);
        x.give(0);
        s.due("given up ahead of 2", x.flag(0, 3), 2);
        s.due("mark of it", x.flag(0, 2), 50);
        x.wave();
        s.due("still 2", x.flag(0, 3), 2);
        s.due("still 1", x.flag(1, 3), 1);
        s.due("it stands", x.flag(2, 3), -1);
        for (int flag : new int[] {-1, 3, 5, 6, MIN, MAX}) {
            for (int what = 0; what < 4; what++) {
                s.due("flag " + flag, x.flag(flag, what), -2);
            }
        }
        for (int what : new int[] {-1, 4, MIN, MAX}) {
            s.due("what " + what, x.flag(0, what), -2);
        }
        s.due("without a beach", new TideCastle().flag(0, 3), -2);
        TideCastle at0 = Check.on("beach 2 2;flag 0 1 1");
        at0.give(0);
        s.due("given up ahead of 0", at0.flag(0, 3), 0);
    }

    private void forceOf() {
        s.of(9, "FORCE of a WAVE, as told; NONE below 0, or without a BEACH");
        TideCastle x = Check.on("beach 2 2;wave 0;wave 20;wave 7;swell 9 1 9");
        int[] forces = {0, 20, 7};
        for (int w : new int[] {0, 1, 2, 3, 4, 5, 998, 999, 1000, 1001, MAX - 2, MAX - 1, MAX}) {
            s.due("force of " + w, x.forceOf(w), forces[w % 3]);
        }
        for (int w : new int[] {-1, -2, -3, MIN}) {
            s.due("force of " + w, x.forceOf(w), -1);
        }
        x.wave();
        s.due("of the first one, later", x.forceOf(0), 0);
        s.due("without a beach", new TideCastle().forceOf(0), -1);
        s.due("without a beach", new TideCastle().forceOf(MAX), -1);
    }

    private void log() {
        s.of(25, "A LOG (n NONE: there are none then, 0; HEIGHT 0 to 9): how many; -2, and nothing happens, "
                + "without these, or if there are 10");
        TideCastle x = Check.on("beach 2 3");
        int[][] off = {{61, 0, 0}, {62, 0, 0}, {MAX, 0, 0}, {-2, 0, 0}, {MIN, 0, 0}, {0, 6, 0}, {0, -1, 0},
            {0, MAX, 0}, {0, MIN, 0}, {0, 0, 10}, {0, 0, -1}, {0, 0, MAX}, {0, 0, MIN}};
        for (int[] o : off) {
            s.due("log(" + o[0] + ", " + o[1] + ", " + o[2] + ")", x.log(o[0], o[1], o[2]), -2);
        }
        s.due("nothing happened", x.count(10), 0);
        s.due("the least", x.log(0, 0, 0), 1);
        s.due("the greatest", x.log(60, 5, 9), 2);
        for (int i = 3; i <= 10; i++) {
            s.due("the same once more", x.log(60, 5, 9), i);
        }
        s.due("an 11th", x.log(0, 0, 0), -2);
        s.due("an 11th, off", x.log(61, 0, 0), -2);
        s.due("ten", x.count(10), 10);
        s.due("none then", x.log(-1, 0, 0), 0);
        s.due("none", x.count(10), 0);
        s.due("none of none", x.log(-1, MIN, MAX), 0);
        s.due("anew", x.log(1, 1, 1), 1);
        s.due("acts", x.count(11), 0);
        s.due("without a beach", new TideCastle().log(0, 0, 0), -2);
        s.due("none then, without a beach", new TideCastle().log(-1, 0, 0), 0);
    }

    /** By the RULES 0 to 5 cell 0 loses so many in WAVE 0, and none later; by none 1 in each WAVE. */
    private static TideCastle sixRules() {
        TideCastle x = Check.on(CLIFF);
        for (String first : new String[] {"0", "1", "2", "3", "2", "1"}) {
            Check.rule(x, "take " + first + " if cell=0 and wave=0");
        }
        return x;
    }

    private void logsThatHold() {
        s.of(26, "ahead of the n-th WAVE of all (0 to 60) a cell had a HEIGHT");
        TideCastle x = sixRules();
        x.log(0, 0, 9);
        s.due("ahead of all", x.ruled(0), 7);
        x.log(1, 0, 8);
        s.due("ahead of wave 1", x.ruled(0), 3);
        x.log(2, 0, 8);
        s.due("ahead of wave 2", x.ruled(0), 2);
        x.log(60, 0, 8);
        s.due("ahead of wave 60", x.ruled(0), 2);
        x.log(60, 3, 8);
        s.due("another cell", x.ruled(0), 0);
        TideCastle ten = Check.on(CLIFF);
        for (int n = 0; n < 10; n++) {
            ten.log(n, 3, 9 - n);
        }
        s.due("ten", ten.ruled(0), 1);
        TideCastle late = Check.on(CLIFF);
        Check.rule(late, "take 1 if wave=59");
        Check.rule(late, "take 1 if wave=60");
        late.log(60, 0, 8);
        s.due("59 is ahead of 60, 60 is not", late.ruled(0) * 10 + late.ruled(1), 10);
    }

    private void ruled() {
        s.of(26, "which of the RULES, and of none, so that from the begin on, all as the text told it, all LOGS "
                + "are so: how many; the first (none ahead of 0, told as NONE)");
        TideCastle x = sixRules();
        s.due("all without logs", x.ruled(0) * 10 + x.ruled(1), 69);
        x.log(1, 0, 8);
        s.due("none, 1 and 5", x.ruled(0) * 10 + x.ruled(1), 29);
        x.log(1, 1, 9);
        s.due("1 and 5", x.ruled(0) * 10 + x.ruled(1), 21);
        x.force(3);
        x.spade(0, 1);
        x.wave();
        x.wave();
        s.due("whatever came since", x.ruled(0) * 10 + x.ruled(1), 21);
        x.log(-1, 0, 0);
        x.log(9, 0, 9);
        s.due("0 alone", x.ruled(0) * 10 + x.ruled(1), 10);
        TideCastle flags = Check.on("beach 2 2;row 99;row 99;flag 0 20 1;wave 20");
        Check.rule(flags, "take 2 if flags=1");
        flags.give(0);
        flags.log(1, 0, 7);
        s.due("the flag stood at first", flags.ruled(1), 0);
        s.due("without rules", Check.on(CLIFF).ruled(0) * 10 + Check.on(CLIFF).ruled(1), 9);

        s.of(26, "RULED what 0: how many, 1: the first (NONE: none; -2: there is none such). -3 for others, or "
                + "without a BEACH.");
        x.log(9, 0, 8);
        s.due("none such", x.ruled(0), 0);
        s.due("none such", x.ruled(1), -2);
        for (int what : new int[] {-1, 2, MIN, MAX}) {
            s.due("what " + what, x.ruled(what), -3);
        }
        s.due("without a beach", new TideCastle().ruled(0), -3);
        s.due("without a beach", new TideCastle().ruled(1), -3);
    }

    private void looks(TideCastle x, int n, int cell, int many) {
        s.due("look(" + n + ", 0)", x.look(n, 0), cell);
        s.due("look(" + n + ", 1)", x.look(n, 1), many);
    }

    private void look() {
        s.of(27, "the cell by whose HEIGHT these part best: the most alike are fewest, of several the least; how "
                + "many");
        TideCastle x = sixRules();
        looks(x, 0, 0, 7);
        // Ahead of WAVE 1 cell 0 is 8 (none) 9 8 7 6 7 8 high: three alike; the others 8, and 9 six times.
        looks(x, 1, 0, 3);
        // Later by none it is 0 high, by the others as before.
        looks(x, 60, 0, 2);
        TideCastle y = Check.on(CLIFF);
        Check.rule(y, "take 1 if cell=2");
        Check.rule(y, "take 1 if cell=2 or cell=3");
        Check.rule(y, "take 1 if cell=3");
        y.log(1, 0, 9);
        // Cell 2: 8 8 9, cell 3: 9 8 8, others 9 9 9.
        looks(y, 1, 2, 2);
        y.log(1, 2, 8);
        looks(y, 1, 3, 1);
        y.log(1, 3, 9);
        looks(y, 1, 0, 1);
        TideCastle alone = Check.on(CLIFF);
        looks(alone, 60, 0, 1);
        looks(alone, 60, 0, 1);
        TideCastle late = Check.on(CLIFF);
        Check.rule(late, "take 1 if wave=0 and cell=2");
        Check.rule(late, "take 1 if wave=0 and cell=2 or wave=1 and cell=3");
        late.log(1, 0, 9);
        // They part in WAVE 1 only, whichever WAVE the LOGS are of.
        looks(late, 1, 0, 2);
        looks(late, 2, 3, 1);

        s.of(27, "LOOK ahead of the n-th WAVE (0 to 60) what 0: the cell, 1: how many; -2: no RULE is so. NONE "
                + "without these, or a BEACH.");
        for (int n : new int[] {-1, 61, 62, MIN, MAX}) {
            s.due("n " + n, y.look(n, 0), -1);
            s.due("n " + n, y.look(n, 1), -1);
        }
        for (int what : new int[] {-1, 2, MIN, MAX}) {
            s.due("what " + what, y.look(0, what), -1);
        }
        y.log(0, 0, 0);
        looks(y, 0, -2, -2);
        looks(y, 60, -2, -2);
        s.due("n 61 ahead of that", y.look(61, 0), -1);
        looks(new TideCastle(), 0, -1, -1);
    }

    private void seed() {
        s.of(28, "x becomes a number: what it was; NONE, and nothing happens, below 0");
        TideCastle x = new TideCastle();
        s.due("0 at first", x.seed(MAX), 0);
        for (int off : new int[] {-1, -2, MIN}) {
            s.due("seed(" + off + ")", x.seed(off), -1);
            s.due("x", x.count(12), MAX);
        }
        s.due("the greatest was", x.seed(0), MAX);
        s.due("0 was", x.seed(1), 0);
        s.due("1 was", x.seed(1), 1);
    }

    private static int after(int x) {
        return BigInteger.valueOf(x).multiply(BigInteger.valueOf(1103515245)).add(BigInteger.valueOf(12345))
                .mod(BigInteger.TWO.pow(31)).intValueExact();
    }

    /** The flag falls by FORCE 6, not by 5; no sand goes. MARKS and FLAGS of m times n WAVES. */
    private void drawn(int seed, int force, int[] odds, int m, int n) {
        TideCastle t = Check.on("beach 2 2;row 99;row 22;flag 2 3 7;wave " + force + ";swell " + odds[0] + " "
                + odds[1] + " " + odds[2], "take 0");
        t.seed(seed);
        int x = seed;
        int marks = 0;
        int fallen = 0;
        for (int i = 0; i < m; i++) {
            boolean stands = true;
            for (int j = 0; j < n; j++) {
                x = after(x);
                int draw = x / 65536 % (odds[0] + odds[1] + odds[2]);
                int comes = draw < odds[0] ? force - 1 : draw < odds[0] + odds[1] ? force : force + 1;
                stands &= comes < 6;
                marks += stands ? 7 : 0;
            }
            fallen += stands ? 0 : 1;
        }
        String call = "tides(" + m + ", " + n + ", ..) from " + seed;
        s.due(call + ", marks", t.tides(m, n, 0), marks);
        s.due(call + ", flags", t.tides(m, n, 1), fallen);
        s.due(call + ", x", t.count(12), seed);
    }

    private void draws() {
        s.of(29, "x (0 to 2147483647; 0 at first) becomes x * 1103515245 + 12345, of 2147483648 the rest; a DRAW "
                + "is x / 65536");
        s.due("from 0", after(0), 12345);
        s.due("from 1", after(1), 1103527590);
        int[][] odds = {{1, 0, 1}, {9, 9, 9}, {1, 9, 1}, {8, 0, 1}, {0, 7, 1}, {5, 3, 0}, {0, 0, 4}};
        for (int seed : new int[] {0, 1, 2, 12345, 65535, 65536, 1 << 30, MAX - 1, MAX}) {
            for (int[] o : odds) {
                drawn(seed, 5, o, 10, 3);
            }
        }

        s.of(29, "ahead of each a DRAW mod all ODDS together: below the first of them its FORCE is 1 less (0 at "
                + "least), below both first ones as told, else 1 more");
        for (int seed = 0; seed < 12; seed++) {
            for (int[] o : odds) {
                drawn(seed, 4, o, 10, 2);
                drawn(seed, 7, o, 10, 2);
                drawn(seed, 5, o, 10, 1);
                drawn(seed, 6, o, 10, 2);
            }
        }
        TideCastle calm = Check.on("beach 2 2;flag 2 1 7;wave 0;swell 9 0 0", "take 3 if force<0");
        s.due("1 less than 0", calm.tides(10, 60, 0), 7 * 600);
        TideCastle most = Check.on("beach 2 2;row 99;row 22;flag 2 18 7;wave 20;swell 0 0 9", "take 0");
        s.due("1 more than 20", most.tides(10, 60, 1), 10);
    }

    private void tides() {
        s.of(29, "TIDES m times (1 to 10) n WAVES (1 to 60) from now on");
        for (int m = 1; m <= 10; m++) {
            drawn(7, 5, new int[] {3, 8, 1}, m, m);
            drawn(7, 5, new int[] {3, 8, 1}, m, 60);
        }
        TideCastle x = Check.on("beach 2 2;row 99;row 22;flag 0 9 7;flag 1 9 1;wave 5;wave 0");
        s.due("once 1", x.tides(1, 1, 0), 8);
        s.due("10 times 60", x.tides(10, 60, 0), 4800);
        for (int m : new int[] {0, -1, 11, 12, MIN, MAX}) {
            s.due("m " + m, x.tides(m, 1, 0), -1);
        }
        for (int n : new int[] {0, -1, 61, 62, MIN, MAX}) {
            s.due("n " + n, x.tides(1, n, 0), -1);
        }

        s.of(29, "MARKS got in them, FLAGS that FALL, all together (x as it was)");
        x.wave();
        x.give(1);
        s.due("marks got in them alone", x.tides(2, 3, 0), 42);
        s.due("not those that fell ahead", x.tides(2, 3, 1), 0);
        TideCastle two = Check.on("beach 2 2;row 99;row 22;flag 2 1 7;flag 3 1 1;flag 0 9 2;wave 9");
        two.seed(99);
        s.due("two flags, ten times", two.tides(10, 60, 1), 20);
        s.due("x", two.count(12), 99);

        s.of(29, "TIDES what 0: MARKS, 1: FLAGS. NONE without these, or a BEACH.");
        for (int what : new int[] {-1, 2, MIN, MAX}) {
            s.due("what " + what, x.tides(1, 1, what), -1);
        }
        s.due("without a beach", new TideCastle().tides(1, 1, 0), -1);
        s.due("without a beach", new TideCastle().tides(1, 1, 1), -1);
    }

    private void count() {
        s.of(30, "0: COLUMNS, 1: ROWS, 2: FLAGS, 3: WAVES told, 4: RULES, 5: the RULE IN FORCE (NONE), 6: the "
                + "WAVE to come, 7: MARKS, 8: FLAGS that stand, as bits, 9: all HEIGHTS together, 10: LOGS, 11: "
                + "ACTS that can be UNDONE, 12: x, 13: bytes of the TAPE. NONE for others.");
        TideCastle x = Check.on("beach 5 2;row 99999;row 99999;flag 9 20 4;flag 0 20 3;flag 0 20 2;wave 0;wave 0"
                + ";wave 0;wave 0");
        Check.rule(x, "take 1");
        Check.rule(x, "take 2");
        x.force(1);
        for (int i = 0; i < 5; i++) {
            x.wave();
        }
        x.give(1);
        x.log(0, 0, 0);
        x.log(0, 0, 1);
        x.log(0, 0, 2);
        x.seed(MAX);
        x.feed(0, 0, 0, 0, 0);
        x.end(8);
        int[] want = {5, 2, 3, 4, 2, 1, 5, 45, 5, 90, 3, 6, MAX, 8};
        for (int what = 0; what < want.length; what++) {
            s.due("count(" + what + ")", x.count(what), want[what]);
        }
        for (int what : new int[] {-1, -2, 14, 15, MIN, MAX}) {
            s.due("count(" + what + ")", x.count(what), -1);
        }
    }

    private void image() {
        s.of(31, "An IMAGE is made: the WAVE to come; NONE without it");
        TideCastle x = Check.on(BAY);
        for (int k = 0; k < 4; k++) {
            s.due("image(" + k + ")", x.image(k), k);
            x.wave();
        }
        for (int k : new int[] {-1, 4, 5, MIN, MAX}) {
            s.due("image(" + k + ")", x.image(k), -1);
        }
        for (int k = 0; k < 4; k++) {
            s.due("back(" + k + ")", x.back(k), k);
            s.due("acts", x.count(11), k);
        }
        s.due("made anew", x.image(0), 3);
        x.back(1);
        s.due("the later one", x.back(0), 3);
        s.due("without a beach", new TideCastle().image(0), 0);
    }

    private static TideCastle busy() {
        TideCastle x = Check.on(BAY, "take 1");
        x.wave();
        x.seed(7);
        x.log(1, 4, 0);
        x.log(0, 4, 1);
        x.spade(0, 1);
        return x;
    }

    private void back() {
        s.of(32, "all but the RULES and the TAPE, as it is (the RULE IN FORCE, what can be UNDONE, too); gone "
                + "back to, it is as it was (these stay)");
        TideCastle x = busy();
        x.image(2);
        String seen = Sentences.seen(x);
        x.wave();
        x.give(1);
        x.seed(8);
        x.log(-1, 0, 0);
        x.log(3, 3, 3);
        x.force(-1);
        Check.beach(x, "beach 5 5;wave 9");
        // In place of the two LOGS of the image.
        x.log(0, 24, 4);
        x.log(0, 3, 9);
        x.log(0, 0, 0);
        x.wave();
        s.due("back", x.back(2), 1);
        s.same("back", Sentences.seen(x), seen);
        s.due("its logs", x.ruled(0), 2);
        s.due("its waves and swell", x.forceOf(1) * 100 + x.odds(1, 1), 301);
        s.due("undo", x.undo(), 1);
        s.due("undo", x.undo(), 0);
        s.due("undo", x.undo(), -2);
        s.due("heights as told", x.count(9), 22);
        s.due("the image has not changed", x.back(2), 1);
        s.same("the image has not changed", Sentences.seen(x), seen);
        Check.rule(x, "take 2");
        x.force(1);
        x.feed(0, 0, 0, 0, 0);
        x.back(2);
        s.due("rules stay", x.count(4), 2);
        s.due("the one in force was 0", x.count(5), 0);
        s.due("the tape stays", x.count(13), 20);
        TideCastle empty = new TideCastle();
        empty.image(0);
        Check.beach(empty, "beach 2 2");
        s.due("back to no beach", empty.back(0), 0);
        s.due("no beach", empty.wave(), -1);
        twentyKept();

        s.of(32, "All is as in an IMAGE: the WAVE to come; NONE, and nothing happens, if it was never made, or "
                + "without it");
        TideCastle y = busy();
        y.image(1);
        y.wave();
        String later = Sentences.seen(y);
        for (int k : new int[] {0, 2, 3, -1, 4, 5, MIN, MAX}) {
            s.due("back(" + k + ")", y.back(k), -1);
        }
        s.same("refused", Sentences.seen(y), later);
        s.due("without a beach", new TideCastle().back(0), -1);
    }

    /** What can be UNDONE in an IMAGE stays so, whatever is done or UNDONE later. */
    private void twentyKept() {
        TideCastle x = Check.on("beach 2 2;flag 0 20 1;wave 0");
        for (int i = 0; i < 25; i++) {
            x.wave();
        }
        x.image(3);
        for (int i = 0; i < 30; i++) {
            x.move(0, 1 + i % 2);
        }
        x.back(3);
        s.due("acts", x.count(11), 20);
        for (int i = 19; i >= 0; i--) {
            s.due("undo", x.undo(), i);
            s.due("wave", x.count(6), 5 + i);
        }
        x.move(0, 2);
        s.due("back", x.back(3), 25);
        s.due("acts", x.count(11), 20);
        s.due("undo", x.undo(), 19);
        s.due("wave", x.count(6), 24);
        s.due("its flag", x.flag(0, 0), 0);
    }
}
