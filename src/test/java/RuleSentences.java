/** Sentences on the language of the RULES (Terms, part I): how they are read and what they say. */
final class RuleSentences {
    // All cells 9 high: a WAVE comes to the upper ones by 9, to the lower ones by 10.
    private static final String CLIFF = "beach 2 2;row 99;row 99;wave 20";
    private static final String[] WORDS = {"cell", "height", "strength", "wet", "force", "wave",
        "flags", "low", "high"};
    private final Sentences s;

    private RuleSentences(Sentences s) {
        this.s = s;
    }

    static void all(Sentences s) {
        RuleSentences r = new RuleSentences(s);
        r.clauses();
        r.tests();
        r.signs();
        r.numbers();
        r.wordsAsWritten();
        r.wordsOfTheWave();
        r.wordsOfTheCell();
        r.besides();
        r.sums();
        r.blanks();
        r.deep();
        r.parts();
        r.faults();
        r.whichFault();
    }

    private void good(String text) {
        s.due("rule of \"" + text + "\"", Check.rule(new TideCastle(), text), 0);
    }

    private void bad(String text, int place, int kind) {
        s.due("rule of \"" + text + "\"", Check.rule(new TideCastle(), text),
                Check.fault(place, kind));
    }

    /** What a RULE takes from a cell of CLIFF in its first WAVE. */
    private void takes(String rule, int cell, int want) {
        s.due("sand of " + cell + " by \"" + rule + "\"", 9 - Check.on(CLIFF, rule).ahead(cell, 1, 0),
                want);
    }

    private void holds(String test, boolean want) {
        takes("take 1 if " + test, 0, want ? 1 : 0);
    }

    private void clauses() {
        s.of(5, "RULES 0 to 5: texts likewise, 12 CLAUSES at most");
        String never = "take 0 if 1=2;";
        takes(never.repeat(11) + "take 3", 0, 3);
        bad(never.repeat(12) + "take 3", 12 * 14, 4);
        good("take 1;".repeat(11) + "take 1");
        bad("take 1;".repeat(12) + "take 1", 84, 4);
        good(Sentences.padded("take 1", 400));
        takes(" ".repeat(394) + "take 2", 3, 2);
        bad(Sentences.padded("take 1;", 400), 400, 0);
        bad("", 0, 0);
        bad("take 1;", 7, 0);
        bad(";take 1", 0, 0);
        bad("take 1;;take 1", 7, 0);

        s.of(5, "take SUM [ if TEST ]");
        good("take 1");
        good("take 1 if 1=1");
        bad("take", 4, 0);
        bad("take if 1=1", 5, 0);
        bad("take 1 if", 9, 0);
        bad("take 1 if;take 1", 9, 0);
        bad("take 1 if 1=1 if 1=1", 14, 0);
        bad("take 1=1", 6, 0);
        bad("1 if 1=1", 0, 0);
    }

    private void tests() {
        s.of(10, "TEST: PART { or PART }. PART: FACT { and FACT }.");
        holds("1=1 or 1=2 and 1=2", true);
        holds("1=2 and 1=2 or 1=1", true);
        holds("1=2 and [1=2 or 1=1]", false);
        holds("[1=1 or 1=2] and 1=2", false);
        holds("1=2 or 1=2 or 1=1", true);
        holds("1=2 or 1=2 or 1=2", false);
        holds("1=1 and 1=1 and 1=2", false);
        holds("1=1 and 1=1 and 1=1", true);
        holds("1=1 and 1=2 or 1=2 and 1=1", false);
        bad("take 1 if and 1=1", 10, 0);
        bad("take 1 if 1=1 and", 17, 0);
        bad("take 1 if 1=1 or", 16, 0);
        bad("take 1 if 1=1 and or 1=1", 18, 0);
        bad("take 1 if 1=1 1=1", 14, 0);

        s.of(10, "FACT: not FACT | [ TEST ] (these brackets are signs) | SUM SIGN SUM");
        holds("not 1=2", true);
        holds("not 1=1", false);
        holds("not not 1=1", true);
        holds("not 1=1 or 1=1", true);
        holds("not [1=1 or 1=1]", false);
        holds("not 1=2 and 1=2", false);
        holds("not [1=2 and 1=2]", true);
        holds("[1=1]", true);
        holds("[[1=2]]", false);
        holds("not [not [1=1 and not 1=2]]", true);
        bad("take 1 if []", 11, 0);
        bad("take 1 if [1=1", 14, 0);
        bad("take 1 if 1=1]", 13, 0);
        bad("take 1 if [1]=1", 12, 0);
        bad("take 1 if not", 13, 0);
        bad("take [1]", 5, 0);
    }

    private void signs() {
        s.of(10, "SIGN one of < <= = >= >");
        for (int a = 4; a <= 6; a++) {
            holds(a + "<5", a < 5);
            holds(a + "<=5", a <= 5);
            holds(a + "=5", a == 5);
            holds(a + ">=5", a >= 5);
            holds(a + ">5", a > 5);
            for (String sign : new String[] {"<", "<=", "=", ">=", ">"}) {
                boolean so = sign.equals("<") ? a < 5 : sign.equals("<=") ? a <= 5
                        : sign.equals("=") ? a == 5 : sign.equals(">=") ? a >= 5 : a > 5;
                holds("not " + a + sign + "5", !so);
                holds(a + sign + "5 and 1=1", so);
                holds("1=1 and " + a + sign + "5", so);
                holds("not [" + a + sign + "5 or 1=2]", !so);
            }
        }
        bad("take 1 if 1==1", 12, 0);
        bad("take 1 if 1=<1", 12, 0);
        bad("take 1 if 1=>1", 12, 0);
        bad("take 1 if 1<>1", 12, 0);
        bad("take 1 if 1<==1", 13, 0);
        bad("take 1 if 1!=1", 11, 0);
        bad("take 1 if 1< =1", 13, 0);
        bad("take 1 if 1=1=1", 13, 0);
        bad("take 1 if 1 1", 12, 0);
        bad("take 1 if 1", 11, 0);
    }

    private void numbers() {
        s.of(5, "NUMBER (1 to 5 digits, as far as digits go on)");
        good("take 0");
        good("take 00000");
        good("take 99999");
        takes("take 00003", 0, 3);
        takes("take 99999-99997", 0, 2);
        bad("take 100000", 5, 1);
        bad("take 000000", 5, 1);
        bad("take 1234567890123456789012345", 5, 1);
        bad("take 1+000001", 7, 1);
        bad("take 1 2", 7, 0);
        bad("take 12 3", 8, 0);
        bad("take 1:", 6, 0);
        bad("take :1", 5, 0);
        bad("take /1", 5, 0);
    }

    private void wordsAsWritten() {
        s.of(5, "WORDS (small letters, as far as these go on)");
        for (String word : WORDS) {
            good("take " + word);
            good("take 1 if " + word + "=" + word);
            good("take 2*" + word + " if 1=1");
            bad("take " + word + "x", 5, 0);
            bad("take " + word + "a", 5, 0);
            bad("take " + word + "z", 5, 0);
            bad("take " + word + "`", 5 + word.length(), 0);
            bad("take " + word + "{", 5 + word.length(), 0);
            bad("take " + word.substring(0, word.length() - 1), 5, 0);
            bad("take " + word.substring(1), 5, 0);
            bad("take " + word + word, 5, 0);
            bad("take" + word, 0, 0);
            bad("take " + word + "if 1=1;take 1", 5, 0);
            bad("take " + Character.toUpperCase(word.charAt(0)) + word.substring(1), 5, 0);
            bad("take " + word + "1", 5 + word.length(), 0);
            bad("take " + word + " 1", 6 + word.length(), 0);
        }
        bad("take 1 iff 1=1", 7, 0);
        bad("take 1 i", 7, 0);
        bad("take 1 if nota=1", 10, 0);
        bad("take 1 if notcell=1", 10, 0);
        bad("take 1 if 1=1 an 1=1", 14, 0);
        bad("take 1 if 1=1 andnot 1=1", 14, 0);
        bad("take 1 if 1=1 ore 1=1", 14, 0);
        bad("take take", 5, 0);
        bad("take if", 5, 0);
        bad("take flag", 5, 0);
    }

    private void wordsOfTheWave() {
        s.of(10, "wet (1 if the WAVE ahead came to it, too, else 0)");
        TideCastle x = Check.on("beach 2 2;row 99;row 99;wave 20;wave 20;wave 0;wave 20", "take 1 if wet=1");
        // At first none is wet; WAVE 2 comes nowhere, so that WAVE 3 finds none wet.
        int[] heights = {9, 9, 8, 8, 8, 7};
        for (int n = 0; n < heights.length; n++) {
            s.due("height ahead of wave " + n, x.ahead(0, n, 0), heights[n]);
        }
        s.due("wet is 1", Check.on(CLIFF, "take 3 if wet>1;take wet").ahead(0, 2, 0), 8);

        s.of(10, "force, wave (its number)");
        String three = "beach 2 2;row 99;row 99;wave 20;wave 19;wave 18";
        for (int w = 0; w < 6; w++) {
            String rule = "take 1 if wave=" + w + " and force=" + (20 - w % 3);
            s.due("wave " + w, Check.on(three, rule).ahead(0, w, 0), 9);
            s.due("wave " + w, Check.on(three, rule).ahead(0, w + 1, 0), 8);
        }
    }

    private void wordsOfTheCell() {
        s.of(10, "WORDS (small letters, as far as these go on) of a cell a WAVE comes to: cell, "
                + "height, strength");
        String beach = "beach 2 2;row 67;row 89;wave 20";
        // 20 less 1 less 8 in cell 2, less 9 in cell 3; downhill only 1 less.
        int[] strengths = {10, 9, 11, 10};
        for (int c = 0; c < 4; c++) {
            String rule = "take 1 if cell=" + c + " and height=" + (6 + c) + " and strength="
                    + strengths[c];
            for (int at = 0; at < 4; at++) {
                s.due(rule + " at " + at, Check.on(beach, rule).ahead(at, 1, 0),
                        6 + at - (at == c ? 1 : 0));
            }
        }

        s.of(10, "flags (that stand in it)");
        // By 9 of STRENGTH flag 0 falls in WAVE 0, flag 1 stands on.
        TideCastle x = Check.on("beach 2 2;row 99;row 99;flag 0 9 1;flag 0 10 1;wave 20", "take flags");
        s.due("two stand in it", x.ahead(0, 1, 0), 7);
        s.due("one stands in it", x.ahead(0, 2, 0), 6);
        s.due("none stands in it", x.ahead(1, 2, 0), 9);
        x.give(0);
        s.due("one was given up", x.ahead(0, 1, 0), 8);
        x.move(1, 3);
        s.due("one was moved away", x.ahead(0, 1, 0), 9);
        s.due("one was moved in", x.ahead(3, 1, 0), 8);
        TideCastle six = Check.on("beach 2 2;row 99;row 99" + ";flag 1 20 1".repeat(6) + ";wave 20",
                "take 1 if flags=6");
        s.due("six stand in it", six.ahead(1, 1, 0), 8);
    }

    private void besides() {
        s.of(10, "low, high (the least, the greatest HEIGHT of the cells beside)");
        String beach = "beach 3 3;row 123;row 456;row 789;wave 20";
        int[] low = {2, 1, 2, 1, 2, 3, 4, 5, 6};
        int[] high = {4, 5, 6, 7, 8, 9, 8, 9, 8};
        for (int c = 0; c < 9; c++) {
            String rule = "take 1 if cell=" + c + " and low=" + low[c] + " and high=" + high[c];
            s.due(rule, Check.on(beach, rule).ahead(c, 1, 0), c);
        }
        String flat = "beach 2 2;row 00;row 99;wave 20";
        s.due("all beside 0 but one", Check.on(flat, "take 1 if low=0 and high=9").ahead(2, 1, 0), 8);
        String low9 = "take 1 if low=9 and high=9";
        s.due("all beside 9", Check.on(CLIFF, low9).ahead(2, 1, 0), 8);
        String low0 = "take 1 if low=0 and high=0";
        s.due("all beside 0", Check.on("beach 2 2;row 10;row 01;wave 20", low0).ahead(0, 1, 0), 0);
    }

    private void sums() {
        s.of(10, "SUM: TERM { (+ or -) TERM }. TERM: VALUE { (* or / or %) VALUE }.");
        takes("take 1+2", 0, 3);
        takes("take 3-1", 0, 2);
        takes("take 9-5-2", 0, 2);
        takes("take 9-5+2-4", 0, 2);
        takes("take 1+1*2", 0, 3);
        takes("take 8/4/2", 0, 1);
        takes("take 8/4*2-2", 0, 2);
        takes("take 9-2*4", 0, 1);
        takes("take 7%4%2", 0, 1);
        takes("take 2*7%4", 0, 2);
        takes("take 10-6/2*3", 0, 1);
        bad("take 1+", 7, 0);
        bad("take +1", 5, 0);
        bad("take -1", 5, 0);
        bad("take 1--1", 7, 0);
        bad("take 1**1", 7, 0);
        bad("take 1 if 1+=1", 12, 0);

        s.of(10, "/ is towards 0, % its rest, both 0 by 0; all goes round in 64 bits");
        takes("take 7/2", 0, 3);
        takes("take 5/3", 0, 1);
        takes("take 2/3", 0, 0);
        takes("take 7%4", 0, 3);
        takes("take 1+5/0", 0, 1);
        takes("take 1+5%0", 0, 1);
        takes("take 2+0/0", 0, 2);
        takes("take 2+5/wet", 0, 2);
        takes("take 2+5%wet", 0, 2);
        goesRound();
    }

    /** Products that go round below 0, and what is left of them towards 0. */
    private void goesRound() {
        int below = 0;
        for (long d = 50000; d < 50040; d++) {
            long big = 99999L * 99999L * 99999L * d;
            below += big < 0 ? 1 : 0;
            String text = "99999*99999*99999*" + d;
            holds(text + "<0", big < 0);
            long third = big / 99999 / 99999 / 99999;
            holds("10000+" + text + "/99999/99999/99999=" + (10000 + third), true);
            holds("10+" + text + "%7=" + (10 + big % 7), true);
            holds("10+" + text + "%2=" + (10 + big % 2), true);
        }
        s.due("some are below 0", below > 5 ? 1 : 0, 1);
        // 2 to the power of 64 is 0, of 63 the least of all numbers.
        holds("65536*65536*65536*65536=0", true);
        holds("65536*65536*65536*32768<0", true);
        holds("65536*65536*65536*32768-1>0", true);
        takes("take 65536*65536*65536*32768", 0, 0);
        takes("take 65536*65536*65536*32767", 0, 3);
    }

    private void blanks() {
        s.of(5, "Blanks (32) stand between as one likes (not within DIGITS)");
        good("take1if1=1");
        good("take high if[1=1]or not[1=1]and 1=1;take 2");
        good("  take  1  +  2  *  cell  if  not  [  1  <=  2  ]  and  3  >  2  ;  take  1  ");
        bad("ta ke 1", 0, 0);
        bad("take he ight", 5, 0);
        bad("take 1 if 1< =1", 13, 0);
        for (int sign : new int[] {0, 9, 10, 13, 31, 33, 127, 128, 160, 255}) {
            bad((char) sign + "take 1", 0, 0);
            bad("take" + (char) sign + "1", 4, 0);
            bad("take 1" + (char) sign, 6, 0);
            bad("take 1 if 1" + (char) sign + "=1", 11, 0);
            bad("take 1 if [1=1" + (char) sign + "]", 14, 0);
        }
    }

    private void deep() {
        s.of(5, "[ and not lie within one another 10 deep at most");
        holds("not ".repeat(10) + "1=1", true);
        holds("not ".repeat(9) + "1=1", false);
        holds("[".repeat(10) + "1=1" + "]".repeat(10), true);
        holds("not [".repeat(5) + "1=1" + "]".repeat(5), false);
        bad("take 1 if " + "not ".repeat(11) + "1=1", 10 + 40, 2);
        bad("take 1 if " + "[".repeat(11) + "1=1" + "]".repeat(11), 20, 2);
        bad("take 1 if " + "not [".repeat(5) + "[1=1" + "]".repeat(6), 35, 2);
        bad("take 1 if " + "[not ".repeat(5) + "not 1=1" + "]".repeat(5), 35, 2);
        // Side by side they don't lie within one another.
        good("take 1 if 1=1" + " and [1=1]".repeat(11));
        good("take 1 if 1=1" + " and not 1=1".repeat(11));
        String ten = "[".repeat(10) + "1=1" + "]".repeat(10);
        good("take 1 if " + ten + " and " + ten + " or not [" + ten.substring(2, 21) + "]");
        good("take 1 if " + ten + ";take 1 if " + ten);
        good("take 1 if [" + "not ".repeat(9) + "1=1 and " + "not ".repeat(9) + "1=1]");
        bad("take 1 if [" + "not ".repeat(9) + "1=1 and " + "not ".repeat(10) + "1=1]", 91, 2);

        s.of(5, "2 too deep (at the sign that opens, or the word not)");
        bad("take 1 if " + "[".repeat(10) + "   [ 1=1", 23, 2);
        bad("take 1 if " + "[".repeat(10) + "   not 1=1", 23, 2);
        bad("take 1 if " + "[".repeat(10) + "   not", 23, 2);
        bad("take 1 if " + "[".repeat(11), 20, 2);
    }

    private void parts() {
        s.of(5, "at most 60 VALUES (of SUMS) and FACTS made of a SIGN, together");
        String sixty = "take 1" + "+1".repeat(59);
        good(sixty);
        bad(sixty + "+1", 125, 3);
        // 19 FACTS of two VALUES each are 57 with those.
        String nineteen = " if 1=1" + " or 1=1".repeat(18);
        good("take 1" + nineteen);
        good("take 1+1+1" + nineteen);
        bad("take 1+1+1+1" + nineteen, 12 + nineteen.length() - 1, 3);
        bad("take 1" + nineteen + " or 1=1", 6 + nineteen.length() + 6, 3);
        bad("take 1+1" + nineteen + " or 1=1", 8 + nineteen.length() + 5, 3);
        bad("take 1+1+1" + nineteen + " or 1=1", 10 + nineteen.length() + 4, 3);
        good("take 1;".repeat(9) + "take 1" + "+1".repeat(50));
        bad("take 1;".repeat(9) + "take 1" + "+1".repeat(51), 9 * 7 + 5 + 102, 3);
        // Those made of [ or not are no FACTS made of a SIGN.
        good("take 1+1+1 if [1=1]" + " or not [1=1]".repeat(18));
        String full = "take 1+1+1 if [1=1]" + " or not [1=1]".repeat(18);
        bad(full + " or cell=1", full.length() + 4, 3);

        s.of(5, "3 one VALUE or FACT too many (at its first byte; of a FACT at its SIGN)");
        bad(sixty + "+  height", 127, 3);
        bad(sixty + " if 1=1", 128, 3);
        bad(sixty + ";take 1", 130, 3);
        String fiftyNine = "take 1" + "+1".repeat(58);
        bad(fiftyNine + " if 1  <=  1", fiftyNine.length() + 7, 3);
        String fiftyEight = "take 1" + "+1".repeat(57);
        bad(fiftyEight + " if 1  <=  1", fiftyEight.length() + 11, 3);
        good("take 1" + "+1".repeat(56) + " if 1  <=  1");
    }

    private void faults() {
        s.of(5, "0 a byte or WORD that can't stand there, or the end (behind the last byte");
        bad(" ", 1, 0);
        bad("beach 2 2", 0, 0);
        bad("take   ", 7, 0);
        bad("take 1  x", 8, 0);
        bad("take (1)", 5, 0);
        bad("take 1 and 1=1", 7, 0);
        bad("take 1 if 1=1 ; ", 16, 0);
        bad("take 1 if [1=1 ;take 1", 15, 0);
        bad("take 1 if [[1=1]", 16, 0);
        bad("take 1 if [1=1]  ]", 17, 0);
        bad("take 1 if 1<", 12, 0);

        s.of(5, "1 a NUMBER of more digits, or not as told");
        bad("take 1 if 123456=1", 10, 1);
        bad("take 1 if 1=  123456", 14, 1);

        s.of(5, "4 one CLAUSE too many");
        bad("take 1;".repeat(12) + "   take 1", 87, 4);
        bad("take 1;".repeat(12) + "take", 84, 4);
        bad("take 1;".repeat(20), 84, 4);
    }

    private void whichFault() {
        s.of(5, "FAULTS, the first along the text, 1 + 8 * its place and");
        s.due("an empty text", Check.rule(new TideCastle(), ""), -2 - 1);
        s.due("a number at 5", Check.rule(new TideCastle(), "take 123456 x"), -2 - (1 + 8 * 5 + 1));
        bad("take 123456 if " + "[".repeat(11), 5, 1);
        bad("take 1 if " + "[".repeat(11) + "x", 20, 2);
        bad("take 1" + "+1".repeat(60) + "+123456", 125, 3);

        s.of(5, "Of one place the least.");
        String sixty = "take 1" + "+1".repeat(59);
        bad(sixty + "+123456", 125, 1);
        bad(sixty + "+x", 125, 0);
        bad(sixty + "+", 125, 0);
        bad("take 1" + "+1".repeat(58) + " if 1 ~ 1", 128, 0);
        bad("take 1;".repeat(12) + "taken 1", 84, 0);
        bad("take 1;".repeat(12), 84, 0);
        bad("take 1 if " + "[".repeat(10) + "nott 1=1", 20, 0);
    }
}
