/**
 * Not by chance, but all there are of a small kind, on the class and on the Oracle: texts of a few
 * pieces behind each of some starts, and BEACHES of four cells with all that can be asked of them.
 * "java SmallTest N" takes N pieces behind each start.
 */
public final class SmallTest {
    private static final String[] BEACH_STARTS = {"", "beach", "beach 2", "beach 2 2", "beach 3 2;row",
        "beach 2 2;flag", "beach 2 2;swell", "beach 2 2;swell 0 0"};
    private static final String[] BEACH_PIECES = {"beach", "row", "flag", "wave", "swell", "0", "2",
        "25", "123456", ";", " ", "x", "\u00e9"};
    private static final String[] RULE_STARTS = {"", "take", "take 1 if", "take 1 if [", "take 1 if not",
        "take 1 if 1<2", "take 1 if [1<2", "take 1 if[[[[[[[[[1<2 and"};
    private static final String[] RULE_PIECES = {"take", "if", "not", "and", "or", "[", "]", "<", "=",
        ">", "+", "*", "1", "123456", "low", ";", " "};
    private static final String[] HEIGHTS = {"0", "1", "2", "4", "9"};
    private static final String[] RULES = {"take strength-height", "take 2 if wet=0; take 1 if flags>0 or low<1",
        "take 3 if strength>=high and not force%2=1"};

    private TideCastle mine = new TideCastle();
    private Oracle other = new Oracle();
    private long asked = 0;
    private int wrong = 0;

    private void due(String told, String call, int got, int want) {
        asked++;
        if (got != want) {
            wrong++;
            if (wrong < 20) {
                System.out.println("\"" + told + "\" " + call + " answered " + got + ", due is " + want);
            }
        }
    }

    private void lay(String text) {
        Check.lay(mine, text);
        other.tape = text;
    }

    private void tell(String text, boolean rule) {
        lay(text);
        if (!rule) {
            due(text, "beach()", mine.beach(), other.beach());
            return;
        }
        due(text, "rule()", mine.rule(), other.rule());
        if (other.rules.size() == 6) {
            mine = new TideCastle();
            other = new Oracle();
        }
    }

    private void tellAll(String start, String[] pieces, int more, boolean rule) {
        tell(start, rule);
        for (int i = 0; more > 0 && i < pieces.length; i++) {
            tellAll(start + pieces[i], pieces, more - 1, rule);
        }
    }

    private void askOfFlag(String told, int f) {
        due(told, "falls", mine.falls(f), other.falls(f));
        due(told, "borne", mine.borne(f), other.borne(f));
        for (int what = -1; what <= 4; what++) {
            due(told, "flag", mine.flag(f, what), other.flag(f, what));
            due(told, "wall", mine.wall(f, what), other.wall(f, what));
            due(told, "odds", mine.odds(f, what), other.odds(f, what));
            due(told, "high", mine.high(f, what), other.high(f, what));
        }
    }

    private void askOfCell(String told, int c) {
        for (int k = -1; k <= 4; k++) {
            due(told, "cell", mine.cell(c, k), other.cell(c, k));
            due(told, "way", mine.way(c, k), other.way(c, k));
            due(told, "ahead", mine.ahead(c, 3, k), other.ahead(c, 3, k));
        }
    }

    private void askOfAll(String told) {
        for (int what = -1; what <= 4; what++) {
            due(told, "dig", mine.dig(1, 2, what), other.dig(1, 2, what));
            due(told, "dig", mine.dig(2, 2, what), other.dig(2, 2, what));
            due(told, "rival", mine.rival(2, what), other.rival(2, what));
            due(told, "giveUp", mine.giveUp(3, what), other.giveUp(3, what));
            due(told, "tides", mine.tides(2, 3, what), other.tides(2, 3, what));
            due(told, "look", mine.look(1, what), other.look(1, what));
            due(told, "ruled", mine.ruled(what), other.ruled(what));
        }
    }

    private void askEverything(String told) {
        for (int f = -1; f <= 2; f++) {
            askOfFlag(told, f);
        }
        for (int c = -1; c <= 4; c++) {
            askOfCell(told, c);
        }
        askOfAll(told);
        for (int what = 0; what <= 13; what++) {
            due(told, "count", mine.count(what), other.count(what));
        }
    }

    private void beaches(int sides) {
        mine = new TideCastle();
        other = new Oracle();
        for (String rule : RULES) {
            tell(rule, true);
        }
        int all = sides * sides * sides * sides;
        for (int i = 0; i < all; i++) {
            String heights = "row " + HEIGHTS[i % sides] + HEIGHTS[i / sides % sides] + ";row "
                    + HEIGHTS[i / sides / sides % sides] + HEIGHTS[i / sides / sides / sides];
            for (int force = 3; force <= 12; force += 3) {
                String told = "beach 2 2;" + heights + ";flag 0 2 3;flag 3 4 5;swell 1 2 3;wave "
                        + force + ";wave " + (force + 1);
                int law = (i + force) % 4 - 1;
                due(told, "force", mine.force(law), other.force(law));
                tell(told, false);
                askEverything(told);
                due(told, "log", mine.log(1, i % 4, 1), other.log(1, i % 4, 1));
                due(told, "wave", mine.wave(), other.wave());
                askEverything(told);
            }
        }
    }

    public static void main(String[] args) {
        int more = args.length > 0 ? Integer.parseInt(args[0]) : 3;
        SmallTest all = new SmallTest();
        for (String start : BEACH_STARTS) {
            all.tellAll(start, BEACH_PIECES, more, false);
        }
        for (String start : RULE_STARTS) {
            all.tellAll(start, RULE_PIECES, more, true);
        }
        all.beaches(HEIGHTS.length);
        System.out.println(all.asked + " answers, " + all.wrong + " wrong");
        if (all.wrong != 0) {
            System.exit(1);
        }
    }
}
