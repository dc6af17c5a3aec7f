/** Sentences on the language of the BEACH (Terms, part I) and its FAULTS. */
final class BeachSentences {
    private static final String FULL = "beach 5 5" + ";row 12345".repeat(5) + ";flag 0 1 1".repeat(6)
            + ";wave 1".repeat(12) + ";swell 1 1 1";
    private final Sentences s;

    private BeachSentences(Sentences s) {
        this.s = s;
    }

    static void all(Sentences s) {
        BeachSentences b = new BeachSentences(s);
        b.length();
        b.clauses();
        b.size();
        b.rows();
        b.flags();
        b.waves();
        b.swell();
        b.cells();
        b.blanks();
        b.faultsOfBytes();
        b.faultsOfNumbers();
        b.faultsOfTooMany();
        b.whichFault();
    }

    private void good(String text, int cells) {
        s.due("beach of \"" + text + "\"", Check.beach(new TideCastle(), text), cells);
    }

    private void bad(String text, int place, int kind) {
        s.due("beach of \"" + text + "\"", Check.beach(new TideCastle(), text),
                Check.fault(place, kind));
    }

    private void length() {
        s.of(4, "A BEACH is a text of at most 400 bytes");
        good(Sentences.padded("beach 2 2", 400), 4);
        String late = Sentences.padded("beach 2 2;", 394);
        s.due("a clause at the very end", Check.on(late + "wave 7").forceOf(0), 7);
        bad(late + "wave ;", 399, 0);
        bad(late + "      ", 400, 0);
    }

    private void clauses() {
        s.of(4, "CLAUSE { ; CLAUSE }");
        good("beach 2 2", 4);
        good("beach 2 2;wave 1", 4);
        bad("", 0, 0);
        bad(";", 0, 0);
        bad(";beach 2 2", 0, 0);
        bad("beach 2 2;", 10, 0);
        bad("beach 2 2;;wave 1", 10, 0);
        bad("beach 2 2 wave 1", 10, 0);
        bad("beach 2 2;wave 1;", 17, 0);

        // 1 beach, 5 rows, 6 flags, 12 waves and 1 swell are all that can be good: 25 CLAUSES.
        s.of(4, "CLAUSE { ; CLAUSE }, 40 at most");
        good(FULL, 25);
        for (String more : new String[] {"beach 2 2", "row 12345", "flag 0 1 1", "wave 1", "swell 1 1 1"}) {
            bad(FULL + ";" + more, FULL.length() + 1, 4);
        }
        bad("beach 2 2;" + "wave 1;".repeat(40), 10 + 12 * 7, 4);

        s.of(4, "once, the first CLAUSE");
        bad("wave 1;beach 2 2", 0, 4);
        bad("beach 2 2;beach 2 2", 10, 4);
        bad("beach 2 2;wave 1;beach 3 3", 17, 4);
    }

    private void size() {
        s.of(4, "COLUMNS 2 to 5, ROWS 2 to 5");
        for (int columns = 0; columns <= 11; columns++) {
            for (int rows = 0; rows <= 11; rows++) {
                String text = "beach " + columns + " " + rows;
                if (columns < 2 || columns > 5) {
                    bad(text, 6, 1);
                } else if (rows < 2 || rows > 5) {
                    bad(text, 8, 1);
                } else {
                    TideCastle x = new TideCastle();
                    s.due(text, Check.beach(x, text), columns * rows);
                    s.due(text + ", its size", 10 * x.count(0) + x.count(1), 10 * columns + rows);
                }
            }
        }
    }

    private void rows() {
        s.of(4, "as many digits, one behind the other, as there are COLUMNS");
        for (int columns = 2; columns <= 5; columns++) {
            for (int digits = 0; digits <= 7; digits++) {
                String text = "beach " + columns + " 2;row " + "1234567".substring(0, digits);
                if (digits == columns) {
                    good(text, 2 * columns);
                    good(text + ";wave 1", 2 * columns);
                } else {
                    bad(text, 14 + Math.min(digits, columns), 0);
                    bad(text + ";wave 1", 14 + Math.min(digits, columns), 0);
                }
            }
        }

        s.of(4, "HEIGHTS 0 to 9 of the cells of the next row");
        TideCastle x = Check.on("beach 5 2;row 01234;row 56789");
        for (int cell = 0; cell < 10; cell++) {
            s.due("height of " + cell, x.cell(cell, 0), cell);
        }
        s.due("rows among other clauses", Check.on("beach 2 3;row 12;wave 3;row 34;flag 0 1 1;row 56")
                .cell(5, 0), 6);

        s.of(4, "ROWS of them at most, those not told are 2");
        for (int rows = 2; rows <= 5; rows++) {
            for (int told = 0; told <= rows; told++) {
                TideCastle y = Check.on("beach 3 " + rows + ";row 777".repeat(told));
                s.due(told + " of " + rows, y.count(9), 3 * (7 * told + 2 * (rows - told)));
                s.due("the last row", y.cell(3 * rows - 1, 0), told == rows ? 7 : 2);
            }
            String full = "beach 3 " + rows + ";row 777".repeat(rows);
            bad(full + ";row 777", full.length() + 1, 4);
        }
    }

    private void flags() {
        s.of(8, "flag NUMBER NUMBER NUMBER (a cell; STAND 1 to 20; MARK 1 to 50)");
        for (int columns = 2; columns <= 5; columns++) {
            for (int rows = 2; rows <= 5; rows++) {
                int cells = columns * rows;
                String text = "beach " + columns + " " + rows + ";flag ";
                s.due("the last cell", Check.on(text + (cells - 1) + " 1 1").flag(0, 0), cells - 1);
                s.due("cell 0", Check.on(text + "0 1 1").flag(0, 0), 0);
                bad(text + cells + " 1 1", 15, 1);
            }
        }
        bad("beach 2 2;flag 0 0 1", 17, 1);
        s.due("STAND 1", Check.on("beach 2 2;flag 0 1 1").flag(0, 1), 1);
        s.due("STAND 20", Check.on("beach 2 2;flag 0 20 1").flag(0, 1), 20);
        bad("beach 2 2;flag 0 21 1", 17, 1);
        bad("beach 2 2;flag 0 1 0", 19, 1);
        s.due("MARK 1", Check.on("beach 2 2;flag 0 1 1").flag(0, 2), 1);
        s.due("MARK 50", Check.on("beach 2 2;flag 0 1 50").flag(0, 2), 50);
        bad("beach 2 2;flag 0 1 51", 19, 1);

        s.of(8, "FLAGS 0 to 5, WAVES 0 to 11, in the order told");
        TideCastle x = Check.on("beach 2 3;flag 5 1 10;flag 4 2 20;wave 4;flag 3 3 30;flag 2 4 40"
                + ";flag 1 5 50;row 99;flag 0 6 9");
        int[] marks = {10, 20, 30, 40, 50, 9};
        s.due("flags", x.count(2), 6);
        for (int f = 0; f < 6; f++) {
            s.due("cell, stand of " + f, 10 * x.flag(f, 0) + x.flag(f, 1), 10 * (5 - f) + f + 1);
            s.due("mark of " + f, x.flag(f, 2), marks[f]);
        }
        s.due("no flags", Check.on("beach 2 2").count(2), 0);
    }

    private void waves() {
        s.of(9, "wave NUMBER (FORCE 0 to 20 of the next of the WAVES that come in turns)");
        for (int force = 0; force <= 22; force++) {
            String text = "beach 2 2;wave " + force;
            if (force > 20) {
                bad(text, 15, 1);
            } else {
                s.due(text, Check.on(text).forceOf(0), force);
            }
        }

        s.of(9, "FLAGS 0 to 5, WAVES 0 to 11, in the order told");
        StringBuilder twelve = new StringBuilder("beach 2 2");
        for (int w = 0; w < 12; w++) {
            twelve.append(";wave ").append(20 - w);
        }
        TideCastle x = Check.on(twelve.toString());
        s.due("waves", x.count(3), 12);
        for (int w = 0; w < 36; w++) {
            s.due("force of " + w, x.forceOf(w), 20 - w % 12);
        }

        s.of(9, "without any all WAVES have FORCE 5");
        TideCastle none = Check.on("beach 2 2;row 00;row 00");
        s.due("waves", none.count(3), 0);
        s.due("force of 0", none.forceOf(0), 5);
        s.due("force of 1", none.forceOf(1), 5);
        s.due("force of 999", none.forceOf(999), 5);
        s.due("strength by it", none.cell(2, 3), 4);

        s.of(9, "The first WAVE to come is WAVE 0; behind the last told one the first one comes again.");
        s.due("the first", x.count(6), 0);
        TideCastle two = Check.on("beach 2 2;row 00;row 00;wave 7;wave 3");
        for (int w = 0; w < 6; w++) {
            s.due("wave to come", two.count(6), w);
            s.due("strength of wave " + w, two.cell(2, 3), w % 2 == 0 ? 6 : 2);
            two.wave();
        }
        TideCastle one = Check.on("beach 2 2;wave 9");
        s.due("one alone", one.forceOf(0) * 100 + one.forceOf(1), 909);
    }

    /** The flag falls by FORCE 6, not by 5: 6 less 1 less 2 is its STAND. */
    private static TideCastle swelling(int force, String swell) {
        return Check.on("beach 2 2;row 99;row 22;flag 2 3 7;wave " + force + swell);
    }

    private void swell() {
        s.of(22, "ODDS 0 to 9 that a FORCE is 1 less, as told, 1 more");
        for (int odds = 0; odds <= 11; odds++) {
            for (int at = 0; at < 3; at++) {
                String text = "beach 2 2;swell " + (at == 0 ? odds + " 1 1" : at == 1 ? "1 " + odds + " 1"
                        : "1 1 " + odds);
                if (odds > 9) {
                    bad(text, 16 + 2 * at, 1);
                } else {
                    good(text, 4);
                }
            }
        }
        s.due("1 less than 6", swelling(6, ";swell 9 0 0").odds(0, 0), 0);
        s.due("1 less than 7", swelling(7, ";swell 9 0 0").odds(0, 0), 1);
        s.due("6 as told", swelling(6, ";swell 0 9 0").odds(0, 0), 1);
        s.due("5 as told", swelling(5, ";swell 0 9 0").odds(0, 0), 0);
        s.due("1 more than 5", swelling(5, ";swell 0 0 9").odds(0, 0), 1);
        s.due("1 more than 4", swelling(4, ";swell 0 0 9").odds(0, 0), 0);

        s.of(4, "not all 0; once at most, 0 1 0 without");
        bad("beach 2 2;swell 0 0 0", 20, 1);
        good("beach 2 2;swell 0 0 1", 4);
        good("beach 2 2;swell 0 1 0", 4);
        good("beach 2 2;swell 1 0 0", 4);
        bad("beach 2 2;swell 0 1 0;swell 0 1 0", 22, 4);
        TideCastle without = swelling(5, "");
        s.due("without, above", without.odds(0, 0), 0);
        s.due("without, below", without.odds(0, 1), 1);
        s.due("without, tides", without.tides(10, 60, 1), 0);
        s.due("without, it falls by 6", swelling(6, "").tides(10, 60, 1), 10);
        s.due("at once", swelling(6, "").tides(10, 1, 1), 10);
        s.due("for sure", swelling(6, "").odds(0, 0) * 10 + swelling(6, "").odds(0, 1), 11);
    }

    private void cells() {
        s.of(7, "Cells are COLUMNS * row + column, both from 0 on; the sea is behind the last row");
        TideCastle wide = Check.on("beach 3 2;row 000;row 000;wave 3");
        s.same("strengths", Sentences.strengths(wide), "1 1 1 2 2 2");
        TideCastle deep = Check.on("beach 2 3;row 00;row 00;row 00;wave 3");
        s.same("strengths", Sentences.strengths(deep), "0 0 1 1 2 2");
        s.due("from 1 down", wide.spade(1, 2), -1);
        TideCastle sand = Check.on("beach 3 2;row 111;row 111");
        s.due("from 1 down", sand.spade(1, 2), 4);
        s.due("from 5 up", sand.spade(5, 0), 2);
        s.due("the last of a row and the first of the next", sand.spade(2, 1), -1);
        s.due("the first of a row and the last of the one ahead", sand.spade(3, 3), -1);
    }

    private void blanks() {
        s.of(4, "Blanks (32) stand between as one likes (not within DIGITS)");
        good("beach2 2;row12;flag0 1 1;wave1;swell1 1 1", 4);
        good("   beach   2   2   ;   row   12   ;   wave   1   ", 4);
        bad("beach 2 2;row 1 2", 15, 0);
        bad("beach 2 2;row 12 3", 17, 0);
        bad("be ach 2 2", 0, 0);
        for (int sign : new int[] {0, 9, 10, 13, 31, 33, 127, 128, 160, 255}) {
            bad((char) sign + "beach 2 2", 0, 0);
            bad("beach" + (char) sign + "2 2", 5, 0);
            bad("beach 2" + (char) sign + "2", 7, 0);
            bad("beach 2 2" + (char) sign + ";wave 1", 9, 0);
            bad("beach 2 2;row" + (char) sign + "12", 13, 0);
            bad("beach 2 2;row 1" + (char) sign, 15, 0);
            bad("beach 2 2" + (char) sign, 9, 0);
        }
    }

    private void faultsOfBytes() {
        s.of(4, "0 a byte or WORD that can't stand there, or the end (behind the last byte");
        bad("x", 0, 0);
        bad("2", 0, 0);
        bad("   ", 3, 0);
        bad("BEACH 2 2", 0, 0);
        bad("beachx 2 2", 0, 0);
        bad("beacha 2 2", 0, 0);
        bad("beachz 2 2", 0, 0);
        // Neither byte beside the small letters is one, nor beside the digits.
        bad("beach` 2 2", 5, 0);
        bad("beach{ 2 2", 5, 0);
        bad("beach 2/ 2", 7, 0);
        bad("beach 2: 2", 7, 0);
        bad("beach 2 2;row 1/", 15, 0);
        bad("beach 2 2;row 1:", 15, 0);
        bad("beach 2 2;row :1", 14, 0);
        bad("beac 2 2", 0, 0);
        bad("take 1", 0, 0);
        bad("beach", 5, 0);
        bad("beach   ", 8, 0);
        bad("beach 2", 7, 0);
        bad("beach 2  ", 9, 0);
        bad("beach two 2", 6, 0);
        bad("beach 2;2", 7, 0);
        bad("beach 2 2 2", 10, 0);
        bad("beach +2 2", 6, 0);
        bad("beach 2 2;wav 1", 10, 0);
        bad("beach 2 2;  waves 1", 12, 0);
        bad("beach 2 2;flag 0 1", 18, 0);
        bad("beach 2 2;flag 0 1 ;", 19, 0);
        bad("beach 2 2;wave 1.5", 16, 0);
        bad("beach 2 2;swell 1 1 ", 20, 0);

        s.of(4, "of DIGITS the first place where one is missing, or the first digit too many");
        bad("beach 3 2;row", 13, 0);
        bad("beach 3 2;row   ", 16, 0);
        bad("beach 3 2;row  ;", 15, 0);
        bad("beach 3 2;row 1", 15, 0);
        bad("beach 3 2;row 12", 16, 0);
        bad("beach 3 2;row 12   ", 16, 0);
        bad("beach 3 2;row 12 3", 16, 0);
        bad("beach 3 2;row 1x3", 15, 0);
        bad("beach 3 2;row 12;row 123", 16, 0);
        bad("beach 3 2;row 1234", 17, 0);
        bad("beach 3 2;row 123456789", 17, 0);
        bad("beach 3 2;row 123  4", 19, 0);
    }

    private void faultsOfNumbers() {
        s.of(4, "1 a NUMBER of more digits, or not as told (of swell the third one, if all are 0)");
        good("beach 00002 00005", 10);
        bad("beach 000002 5", 6, 1);
        bad("beach 2 000005", 8, 1);
        bad("beach 99999 5", 6, 1);
        bad("beach 4294967298 2", 6, 1);
        bad("beach 18446744073709551618 2", 6, 1);
        bad("beach 2 2;flag 000000 1 1", 15, 1);
        bad("beach 2 2;flag 0 000001 1", 17, 1);
        bad("beach 2 2;flag 0 1 000001", 19, 1);
        bad("beach 2 2;wave 000001", 15, 1);
        bad("beach 2 2;swell 000001 1 1", 16, 1);
        bad("beach 2 2;swell 0 0 0", 20, 1);
        bad("beach 2 2;swell 00  000    00000", 27, 1);
        bad("beach 2 2;swell 0 0", 19, 0);
        bad("beach 2 2;swell 0 0 x", 20, 0);
    }

    private void faultsOfTooMany() {
        s.of(4, "a second beach or swell, another CLAUSE ahead of beach, a row, a seventh FLAG, "
                + "a 13th WAVE too many (at its first byte)");
        bad("beach 2 2;  beach", 12, 4);
        bad("beach 2 2;swell 1 1 1;  swell", 24, 4);
        bad(" row 12;beach 2 2", 1, 4);
        bad("  flag 0 1 1", 2, 4);
        bad("wave 1", 0, 4);
        bad("swell 0 0 0", 0, 4);
        bad("beach 2 2;row 12;row 12; row 12", 25, 4);
        good("beach 2 2" + ";flag 0 1 1".repeat(6), 4);
        bad("beach 2 2" + ";flag 0 1 1".repeat(6) + "; flag 0 1 1", 77, 4);
        good("beach 2 2" + ";wave 1".repeat(12), 4);
        bad("beach 2 2" + ";wave 1".repeat(13), 94, 4);
    }

    private void whichFault() {
        s.of(4, "FAULTS, the first along the text, 1 + 8 * its place and");
        s.due("an empty text", Check.beach(new TideCastle(), ""), -2 - 1);
        s.due("a number at 6", Check.beach(new TideCastle(), "beach 9 9;foo"), -2 - (1 + 8 * 6 + 1));
        s.due("a clause at 10", Check.beach(new TideCastle(), "beach 2 2;beach 9 x"),
                -2 - (1 + 8 * 10 + 4));
        bad("beach 2 9 x", 8, 1);
        bad("beach 9", 6, 1);
        bad("beach 2 2;flag 4", 15, 1);
        bad("beach 2 2;flag 0 99 99", 17, 1);
        bad("beach 2 2;swell 10 0", 16, 1);
        bad("beach 2 2;row 1;row 12;row 12;row 12", 15, 0);

        s.of(4, "Of one place the least.");
        bad("beach 2 2" + ";wave 1".repeat(12) + ";waves 1", 94, 0);
        bad("beach 2 2" + ";wave 1".repeat(12) + ";", 94, 0);
        bad("beach 2 2;row 12;row 12;rows 12", 24, 0);
        bad("beach 2 2;beaches", 10, 0);
        bad("rows 12", 0, 0);
    }
}
