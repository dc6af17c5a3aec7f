/** The language of BEACHES and RULES: where a text goes wrong, and by which kind of FAULT. */
public final class FaultsTest {
    private static final Check CHECK = new Check();

    private static void beach(String text, int place, int kind) {
        TideCastle x = Check.on("beach 3 2;wave 7");
        CHECK.due("beach of \"" + text + "\"", Check.beach(x, text), Check.fault(place, kind));
        CHECK.due("what stays behind \"" + text + "\"", x.count(0) + 10 * x.forceOf(0), 73);
        CHECK.due("tape behind \"" + text + "\"", x.count(13), 0);
    }

    private static void goodBeach(String text, int cells) {
        CHECK.due("beach of \"" + text + "\"", Check.beach(new TideCastle(), text), cells);
    }

    private static void rule(String text, int place, int kind) {
        TideCastle x = new TideCastle();
        CHECK.due("rule of \"" + text + "\"", Check.rule(x, text), Check.fault(place, kind));
        CHECK.due("rules behind \"" + text + "\"", x.count(4), 0);
        CHECK.due("tape behind \"" + text + "\"", x.count(13), 0);
    }

    private static void goodRule(String text) {
        CHECK.due("rule of \"" + text + "\"", Check.rule(new TideCastle(), text), 0);
    }

    private static void beachesThatStop() {
        beach("", 0, 0);
        beach("   ", 3, 0);
        beach("beach", 5, 0);
        beach("beach 2", 7, 0);
        beach("beach 2 ", 8, 0);
        beach("beach 2 2;", 10, 0);
        beach("beach 2 2; ", 11, 0);
        beach("beach 2 2;row", 13, 0);
        beach("beach 2 2;row  ", 15, 0);
        beach("beach 2 2;flag 0 1", 18, 0);
        beach("beach 2 2;wave", 14, 0);
        beach("beach 2 2;swell 1 1", 19, 0);
    }

    private static void beachesOfWrongBytes() {
        beach("foo", 0, 0);
        beach("Beach 2 2", 0, 0);
        beach("\u00e9beach 2 2", 0, 0);
        beach("\tbeach 2 2", 0, 0);
        beach("\u0000", 0, 0);
        beach("beach x", 6, 0);
        beach("beachz 2 2", 0, 0);
        beach("beach 2,2", 7, 0);
        beach("beach -2 2", 6, 0);
        beach("beach 2 2 2", 10, 0);
        beach("beach 2 2 row 12", 10, 0);
        beach("beach 2 2;;row 12", 10, 0);
        beach("beach 2 2;beachx", 10, 0);
        beach("beach 2 2;rows 12", 10, 0);
        beach("beach 2 2;12", 10, 0);
        beach("beach 2 2;row 1 2", 15, 0);
        beach("beach 2 2;row ;", 14, 0);
        beach("beach 2 2;row a", 14, 0);
        beach("beach 2 2;row 12 3", 17, 0);
        beach("beach 2 2;row 1234", 16, 0);
        beach("beach 2 2;flag 0 1 1 1", 21, 0);
        beach("beach 2 2;wave 1 1", 17, 0);
        beach("beach 2 2;swell 1 1 1 1", 22, 0);
    }

    private static void beachesOfWrongNumbers() {
        beach("beach 1 2", 6, 1);
        beach("beach 6 2", 6, 1);
        beach("beach 22", 6, 1);
        beach("beach 000002 2", 6, 1);
        beach("beach 123456", 6, 1);
        beach("beach 4294967298 2", 6, 1);
        beach("beach 2 1", 8, 1);
        beach("beach 2 6", 8, 1);
        beach("beach 2 3;flag 6 1 1", 15, 1);
        beach("beach 2 2;flag 0 0 1", 17, 1);
        beach("beach 2 2;flag 0 21 1", 17, 1);
        beach("beach 2 2;flag 0 20 51", 20, 1);
        beach("beach 2 2;wave  21", 16, 1);
        beach("beach 2 2;swell 10 1 1", 16, 1);
        beach("beach 2 2;swell 1 10 1", 18, 1);
        beach("beach 2 2;swell 0 0  0;wave x", 21, 1);
    }

    private static void beachesOfTooMany() {
        beach("  row 12", 2, 4);
        beach("flag 0 1 1", 0, 4);
        beach("wave 1;beach 2 2", 0, 4);
        beach("swell 1 1 1", 0, 4);
        beach("beach 2 2; beach 2 2", 11, 4);
        beach("beach 2 2;swell 0 1 0;swell", 22, 4);
        beach("beach 2 2;row 11;row 11;row", 24, 4);
        beach("beach 2 2" + ";flag 0 1 1".repeat(6) + ";flag", 76, 4);
        beach("beach 2 2" + ";wave 1".repeat(12) + "; wave", 95, 4);
        beach("beach 2 2" + ";wave 1".repeat(12) + "; waves", 95, 0);
    }

    private static void goodBeaches() {
        goodBeach("beach2 2", 4);
        goodBeach("beach 00005   5  ", 25);
        goodBeach("  beach 5 2 ; row12345;wave0;swell9 9 9", 10);
        goodBeach("beach 2 2" + ";flag 3 20 50".repeat(6) + ";wave 20".repeat(12)
                + ";row 00;row 99;swell 0 0 1", 4);
    }

    private static void rulesThatStop() {
        rule("", 0, 0);
        rule(" ", 1, 0);
        rule("take", 4, 0);
        rule("take 1;", 7, 0);
        rule("take 1+", 7, 0);
        rule("take 1 if", 9, 0);
        rule("take 1 if  ", 11, 0);
        rule("take 1 if 1", 11, 0);
        rule("take 1 if 1=", 12, 0);
        rule("take 1 if not", 13, 0);
        rule("take 1 if [", 11, 0);
        rule("take 1 if [1=1", 14, 0);
        rule("take 1 if 1=1 and", 17, 0);
        rule("take 1 if 1=1 or ", 17, 0);
    }

    private static void rulesOfWrongBytes() {
        rule("takes 1", 0, 0);
        rule("1", 0, 0);
        rule("takez 1", 0, 0);
        rule("take cellz", 5, 0);
        rule("take 1 1", 7, 0);
        rule("take -1", 5, 0);
        rule("take (1)", 5, 0);
        rule("take if", 5, 0);
        rule("take heights", 5, 0);
        rule("take 1 + * 2", 9, 0);
        rule("take 1 2", 7, 0);
        rule("take 1 iff 1=1", 7, 0);
        rule("take 1 if 1==1", 12, 0);
        rule("take 1 if 1< =1", 13, 0);
        rule("take 1 if 1=<2", 12, 0);
        rule("take 1 if 1!2", 11, 0);
        rule("take 1 if [1=1]]", 15, 0);
        rule("take 1 if [1]", 12, 0);
        rule("take 1 if [1=1;take 1", 14, 0);
        rule("take 1 if nott 1=1", 10, 0);
        rule("take 1 if 1=1 xor 1=1", 14, 0);
        rule("take 1 if 1=1 and or", 18, 0);
        rule("take 1 if 1=not 1", 12, 0);
        rule("take [1]", 5, 0);
        rule("take \u00ff", 5, 0);
    }

    private static void rulesOfTooMuch() {
        rule("take 000001", 5, 1);
        rule("take 1+123456789012", 7, 1);
        rule("take 1 if " + "not ".repeat(11) + "1=1", 50, 2);
        rule("take 1 if " + "[".repeat(11) + "1=1", 20, 2);
        rule("take 1 if " + "not[".repeat(5) + "  not 1=1", 32, 2);
        rule("take 1 if " + "not[".repeat(5) + "  [1=1", 32, 2);
        String ten = "[".repeat(10) + "1=1" + "]".repeat(10);
        rule("take 1 if " + ten + " and " + "[" + ten, 48, 2);
        // 60 values and the 61st, of each kind.
        String sixty = "take 1" + "+1".repeat(59);
        rule(sixty + "+1", 125, 3);
        rule(sixty + "+high", 125, 3);
        rule(sixty + "+123456", 125, 1);
        rule(sixty + "+hig", 125, 0);
        rule(sixty + "+", 125, 0);
        rule(sixty + ";take 1", 130, 3);
        rule("take 1" + "+1".repeat(58) + " if 1 = 1", 128, 3);
        rule("take 1" + "+1".repeat(57) + " if 1 = 1", 128, 3);
        rule("take 1" + "+1".repeat(56) + " if 1 = 1 or 1 = 1", 131, 3);
        rule("take 1;".repeat(12) + "take", 84, 4);
        rule("take 1;".repeat(12) + " take 1", 85, 4);
        rule("take 1;".repeat(12) + "tak", 84, 0);
        rule("take 1;".repeat(12), 84, 0);
    }

    private static void goodRules() {
        goodRule("take1if1=1");
        goodRule("  take  00001  ;take high*low/wet%cell ");
        goodRule("take 99999 if not[wave>=1 or flags<=2]and strength<force or height>1");
        goodRule("take 1 if " + "not ".repeat(10) + "1=1");
        String ten = "[".repeat(10) + "1=1" + "]".repeat(10);
        goodRule("take 1 if " + ten + " and " + ten + " or not " + ten.substring(1, 22));
        goodRule("take 1" + "+1".repeat(59));
        goodRule("take 1" + "+1".repeat(56) + " if 1 = 1");
        goodRule("take 1;".repeat(11) + "take 1");
    }

    public static void main(String[] args) {
        beachesThatStop();
        beachesOfWrongBytes();
        beachesOfWrongNumbers();
        beachesOfTooMany();
        goodBeaches();
        rulesThatStop();
        rulesOfWrongBytes();
        rulesOfTooMuch();
        goodRules();
        CHECK.close();
    }
}
