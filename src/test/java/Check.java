/** What the tests share: counting wrong answers, and laying a text on the TAPE. */
final class Check {
    private int asked = 0;
    private int wrong = 0;

    void due(String call, int got, int want) {
        asked++;
        if (got != want) {
            wrong++;
            System.out.println(call + " answered " + got + ", due is " + want);
        }
    }

    /** The five numbers of the feed that brings the bytes from a place on, zeros behind the last. */
    static int[] five(String text, int from) {
        int[] five = new int[5];
        for (int i = 0; i < 20; i++) {
            int sign = from + i < text.length() ? text.charAt(from + i) & 255 : 0;
            five[i / 4] = five[i / 4] << 8 | sign;
        }
        return five;
    }

    static void lay(TideCastle x, String text) {
        x.end(0);
        for (int from = 0; from < text.length(); from += 20) {
            int[] f = five(text, from);
            x.feed(f[0], f[1], f[2], f[3], f[4]);
        }
        x.end(text.length());
    }

    static int beach(TideCastle x, String text) {
        lay(x, text);
        return x.beach();
    }

    static int rule(TideCastle x, String text) {
        lay(x, text);
        return x.rule();
    }

    /** A new object with that BEACH. */
    static TideCastle on(String text) {
        TideCastle x = new TideCastle();
        int cells = beach(x, text);
        if (cells < 0) {
            throw new IllegalStateException("not a beach: " + text + ": " + cells);
        }
        return x;
    }

    /** A new object with that BEACH, and that RULE in force. */
    static TideCastle on(String text, String rule) {
        TideCastle x = on(text);
        int number = rule(x, rule);
        if (number < 0) {
            throw new IllegalStateException("not a rule: " + rule + ": " + number);
        }
        x.force(number);
        return x;
    }

    /** What beach or rule answers for a FAULT. */
    static int fault(int place, int kind) {
        return -2 - (1 + 8 * place + kind);
    }

    void close() {
        System.out.println(asked + " answers, " + wrong + " wrong");
        if (asked == 0 || wrong != 0) {
            System.exit(1);
        }
    }
}
