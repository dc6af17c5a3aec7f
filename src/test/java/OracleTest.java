import java.util.Random;

/** Runs of calls by chance, always the same ones, on the class and on the Oracle: they answer alike. */
public final class OracleTest {
    private static final String[] WORDS = {"cell", "height", "strength", "wet", "force", "wave",
        "flags", "low", "high"};
    private static final String[] SIGNS = {"<", "<=", "=", ">=", ">"};

    private final Random chance;
    private final TideCastle mine = new TideCastle();
    private final Oracle other = new Oracle();
    private final StringBuilder told = new StringBuilder();
    private int calls = 0;
    private int wrong = 0;

    private OracleTest(long number) {
        chance = new Random(number);
    }

    private int upTo(int most) {
        return chance.nextInt(most + 1);
    }

    private boolean oneIn(int n) {
        return chance.nextInt(n) == 0;
    }

    /** A number from least to most; now and then one just outside, or far off. */
    private int near(int least, int most) {
        if (oneIn(25)) {
            int[] off = {least - 1, most + 1, least - 2, Integer.MIN_VALUE, Integer.MAX_VALUE, -1};
            return off[upTo(off.length - 1)];
        }
        return least + upTo(Math.max(0, most - least));
    }

    private String gap() {
        return oneIn(12) ? " ".repeat(upTo(3)) : "";
    }

    private String beachText(int widest) {
        int columns = 2 + upTo(widest - 2);
        int rows = 2 + upTo(widest - 2);
        StringBuilder s = new StringBuilder(gap() + "beach " + columns + " " + gap() + rows);
        int told = oneIn(4) ? upTo(rows) : rows;
        int high = 1 + upTo(8);
        for (int r = 0; r < told; r++) {
            s.append(gap()).append(";").append(gap()).append("row ").append(gap());
            for (int c = 0; c < columns; c++) {
                s.append(upTo(high));
            }
        }
        int flags = upTo(6);
        for (int f = 0; f < flags; f++) {
            s.append(";flag ").append(upTo(columns * rows - 1)).append(" ").append(gap())
                    .append(1 + upTo(oneIn(3) ? 19 : 7)).append(" ").append(1 + upTo(49));
        }
        int waves = oneIn(6) ? 0 : upTo(oneIn(3) ? 12 : 4);
        int most = oneIn(2) ? 20 : 10;
        for (int w = 0; w < waves; w++) {
            s.append(";wave").append(oneIn(3) ? "" : " ").append(upTo(most)).append(gap());
        }
        if (!oneIn(3)) {
            s.append("; swell ").append(upTo(9)).append(" ").append(1 + upTo(8)).append(" ")
                    .append(upTo(9));
        }
        return s.toString();
    }

    private String value() {
        if (oneIn(2)) {
            return WORDS[upTo(WORDS.length - 1)];
        }
        return oneIn(15) ? "" + upTo(99999) : "" + upTo(9);
    }

    private String sum() {
        StringBuilder s = new StringBuilder(value());
        int more = oneIn(2) ? 0 : upTo(3);
        for (int i = 0; i < more; i++) {
            s.append(gap()).append("+-*/%".charAt(upTo(4))).append(gap()).append(value());
        }
        return s.toString();
    }

    private String fact(int depth) {
        if (depth < 11 && oneIn(6)) {
            return "not " + gap() + fact(depth + 1);
        }
        if (depth < 11 && oneIn(5)) {
            return "[" + gap() + test(depth + 1) + gap() + "]";
        }
        return sum() + gap() + SIGNS[upTo(4)] + gap() + sum();
    }

    private String test(int depth) {
        StringBuilder s = new StringBuilder(fact(depth));
        int more = oneIn(2) ? 0 : upTo(2);
        for (int i = 0; i < more; i++) {
            s.append(oneIn(2) ? " and " : " or ").append(fact(depth));
        }
        return s.toString();
    }

    private String ruleText() {
        StringBuilder s = new StringBuilder();
        int clauses = oneIn(20) ? 10 + upTo(4) : 1 + upTo(3);
        for (int i = 0; i < clauses; i++) {
            s.append(i == 0 ? "" : ";").append(gap()).append("take ").append(sum());
            if (!oneIn(3)) {
                s.append(" if ").append(test(0));
            }
        }
        return s.toString();
    }

    /** Texts with nests and parts beyond what is borne. */
    private String heavyRule() {
        StringBuilder s = new StringBuilder("take 1 if ");
        int deep = upTo(13);
        for (int i = 0; i < deep; i++) {
            s.append(oneIn(2) ? "not " : "[");
        }
        s.append("1=1");
        int opened = s.length() - s.toString().replace("[", "").length();
        s.append("]".repeat(opened));
        int more = upTo(24);
        for (int i = 0; i < more; i++) {
            s.append(oneIn(2) ? " or " : " and ").append(oneIn(2) ? "low" : "1")
                    .append(SIGNS[upTo(4)]).append("1");
        }
        return s.toString();
    }

    private String spoilt(String text) {
        StringBuilder s = new StringBuilder(text);
        String signs = "  ;;[]<=>+-*/%0123456789abeflnorswtk\u0000\u00e9A~";
        int times = 1 + upTo(1);
        for (int i = 0; i < times && s.length() > 0; i++) {
            int at = upTo(s.length() - 1);
            char sign = signs.charAt(upTo(signs.length() - 1));
            switch (upTo(3)) {
                case 0:
                    s.deleteCharAt(at);
                    break;
                case 1:
                    s.insert(at, sign);
                    break;
                case 2:
                    s.setCharAt(at, sign);
                    break;
                default:
                    s.setLength(at);
                    break;
            }
        }
        return s.toString();
    }

    private void due(String call, int got, int want) {
        calls++;
        told.append(call).append(" -> ").append(got).append('\n');
        if (got != want) {
            wrong++;
            if (wrong == 1) {
                System.out.println(told + "due is " + want);
            }
        }
    }

    private void lay(String whole) {
        String text = whole.length() > 400 ? whole.substring(0, 400) : whole;
        told.append('"').append(text).append("\"\n");
        due("end(0)", mine.end(0), other.end(0));
        for (int from = 0; from < text.length(); from += 20) {
            int[] f = Check.five(text, from);
            due("feed", mine.feed(f[0], f[1], f[2], f[3], f[4]), other.feed(f));
        }
        if (oneIn(10)) {
            due("feed", mine.feed(1, 2, 3, 4, 5), other.feed(1, 2, 3, 4, 5));
        }
        due("end(n)", mine.end(text.length()), other.end(text.length()));
    }

    private void tellBeach(int widest) {
        String text = beachText(widest);
        lay(oneIn(4) ? spoilt(text) : text);
        due("beach()", mine.beach(), other.beach());
    }

    private void tellRule() {
        String text = oneIn(10) ? heavyRule() : ruleText();
        lay(oneIn(5) ? spoilt(text) : text);
        due("rule()", mine.rule(), other.rule());
        int law = near(-1, 5);
        due("force(" + law + ")", mine.force(law), other.force(law));
    }

    private void act() {
        int a = near(0, 24);
        int f = near(0, other.count(2) - 1);
        switch (upTo(6)) {
            case 0:
            case 1:
                due("wave()", mine.wave(), other.wave());
                break;
            case 2:
            case 3:
                int side = near(0, 3);
                due("spade(" + a + "," + side + ")", mine.spade(a, side), other.spade(a, side));
                break;
            case 4:
                if (oneIn(5)) {
                    due("give(" + f + ")", mine.give(f), other.give(f));
                }
                break;
            case 5:
                due("move(" + f + "," + a + ")", mine.move(f, a), other.move(f, a));
                break;
            default:
                due("undo()", mine.undo(), other.undo());
                break;
        }
    }

    private void see() {
        for (int what = -1; what <= 14; what++) {
            due("count(" + what + ")", mine.count(what), other.count(what));
        }
        for (int i = 0; i < 12; i++) {
            int c = near(0, other.count(0) * other.count(1) - 1);
            int f = near(0, other.count(2) - 1);
            int what = near(0, 3);
            due("cell(" + c + "," + what + ")", mine.cell(c, what), other.cell(c, what));
            due("flag(" + f + "," + what + ")", mine.flag(f, what), other.flag(f, what));
        }
        int w = near(0, 999);
        due("forceOf(" + w + ")", mine.forceOf(w), other.forceOf(w));
    }

    private void askOfCells() {
        int c = near(0, other.count(0) * other.count(1) - 1);
        int f = near(0, other.count(2) - 1);
        int k = near(0, 6);
        int n = near(0, oneIn(5) ? 100 : 12);
        int what = near(0, 2);
        due("way(" + c + "," + k + ")", mine.way(c, k), other.way(c, k));
        due("ahead(" + c + "," + n + "," + what + ")", mine.ahead(c, n, what),
                other.ahead(c, n, what));
        due("high(" + f + "," + c + ")", mine.high(f, c), other.high(f, c));
        int h = oneIn(2) && c >= 0 && n <= 60 ? other.ahead(c, n, 0) : near(0, 9);
        due("log(" + n + "," + c + "," + h + ")", mine.log(n, c, h), other.log(n, c, h));
    }

    private void askOfFlags() {
        int f = near(0, other.count(2) - 1);
        int what = near(0, 1);
        int n = near(1, oneIn(5) ? 60 : 9);
        due("falls(" + f + ")", mine.falls(f), other.falls(f));
        due("wall(" + f + "," + what + ")", mine.wall(f, what), other.wall(f, what));
        due("odds(" + f + "," + what + ")", mine.odds(f, what), other.odds(f, what));
        due("borne(" + f + ")", mine.borne(f), other.borne(f));
        due("giveUp(" + n + "," + what + ")", mine.giveUp(n, what), other.giveUp(n, what));
    }

    private void askOfAll(int dearest) {
        int what = near(0, 1);
        int n = near(0, oneIn(5) ? 60 : 6);
        int m = near(1, 10);
        due("ruled(" + what + ")", mine.ruled(what), other.ruled(what));
        due("look(" + n + "," + what + ")", mine.look(n, what), other.look(n, what));
        due("tides(" + m + "," + n + "," + what + ")", mine.tides(m, n, what),
                other.tides(m, n, what));
        if (other.count(0) * other.count(1) <= dearest) {
            int k = near(1, 2);
            int d = near(1, 6);
            int part = near(0, 3);
            due("dig(" + k + "," + d + "," + part + ")", mine.dig(k, d, part),
                    other.dig(k, d, part));
            due("rival(" + d + "," + what + ")", mine.rival(d, what), other.rival(d, what));
        }
    }

    private void keep() {
        int k = near(0, 3);
        if (oneIn(2)) {
            due("image(" + k + ")", mine.image(k), other.image(k));
        } else {
            due("back(" + k + ")", mine.back(k), other.back(k));
        }
        if (oneIn(3)) {
            int x = oneIn(4) ? near(0, Integer.MAX_VALUE - 1) : upTo(1000000);
            due("seed(" + x + ")", mine.seed(x), other.seed(x));
            due("log(-1)", mine.log(-1, 0, 0), other.log(-1, 0, 0));
        }
    }

    private void go(int widest, int dearest) {
        tellBeach(widest);
        tellRule();
        while (calls < 470) {
            switch (upTo(13)) {
                case 0:
                    if (oneIn(3)) {
                        tellBeach(widest);
                    }
                    break;
                case 1:
                    tellRule();
                    break;
                case 2:
                    see();
                    break;
                case 3:
                case 4:
                    askOfCells();
                    break;
                case 5:
                    askOfFlags();
                    break;
                case 6:
                    askOfAll(dearest);
                    break;
                case 7:
                    keep();
                    break;
                default:
                    act();
                    break;
            }
        }
    }

    public static void main(String[] args) {
        int from = args.length > 0 ? Integer.parseInt(args[0]) : 0;
        int runs = args.length > 1 ? Integer.parseInt(args[1]) : 1500;
        int wrong = 0;
        long calls = 0;
        for (int i = from; i < from + runs && wrong < 5; i++) {
            OracleTest run = new OracleTest(i);
            int size = i % 3;
            run.go(3 + size, i % 40 == 0 ? 25 : 6 + 3 * size);
            wrong += run.wrong == 0 ? 0 : 1;
            calls += run.calls;
        }
        System.out.println(runs + " runs, " + calls + " calls, " + wrong + " runs wrong");
        if (wrong != 0) {
            System.exit(1);
        }
    }
}
