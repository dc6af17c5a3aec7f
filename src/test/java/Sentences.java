import java.io.IOException;
import java.nio.charset.StandardCharsets;
import java.nio.file.Files;
import java.nio.file.Path;

/**
 * Tests sentence by sentence: each of them first says of which promise it is and quotes the words
 * of the document that it holds the class to. Words that the document does not have are a fault of
 * the test, so that no test can outlive its sentence.
 */
final class Sentences {
    private static final Path DOCUMENT = Path.of("../shared/DOC.md");
    private static final int PROMISES = 32;

    private final String document;
    private final int[] answersOf = new int[PROMISES + 1];
    private int promise = 0;
    private String words = "";
    private int sentences = 0;
    private int asked = 0;
    private int askedOfThis = 1;
    private int wrong = 0;

    Sentences() throws IOException {
        document = inOneLine(Files.readString(DOCUMENT, StandardCharsets.UTF_8));
    }

    private static String inOneLine(String text) {
        return text.replaceAll("\\s+", " ");
    }

    private void fail(String why) {
        wrong++;
        System.out.println("promise " + promise + ", \"" + words + "\": " + why);
    }

    private void endSentence() {
        if (askedOfThis == 0) {
            fail("nothing is asked");
        }
        askedOfThis = 0;
    }

    /** What is due from here on is of this promise and of these words of the document. */
    void of(int ofPromise, String ofWords) {
        endSentence();
        promise = ofPromise;
        words = ofWords;
        sentences++;
        if (!document.contains(inOneLine(ofWords))) {
            fail("the document has no such words");
        }
    }

    void due(String call, int got, int want) {
        asked++;
        askedOfThis++;
        answersOf[promise]++;
        if (got != want) {
            fail(call + " answered " + got + ", due is " + want);
        }
    }

    void same(String call, String got, String want) {
        due(call + ", all that is seen", got.equals(want) ? 1 : 0, 1);
    }

    void other(String call, String got, String want) {
        due(call + ", something changed", got.equals(want) ? 1 : 0, 0);
    }

    void close() {
        endSentence();
        for (int i = 1; i <= PROMISES; i++) {
            if (answersOf[i] == 0) {
                wrong++;
                System.out.println("no sentence of promise " + i);
            }
        }
        System.out.println(sentences + " sentences, " + asked + " answers, " + wrong + " wrong");
        if (wrong != 0) {
            System.exit(1);
        }
    }

    /** All that count, cell and flag tell, but for STRENGTH. */
    static String seen(TideCastle x) {
        return seenButTape(x) + " " + x.count(13);
    }

    static String seenButTape(TideCastle x) {
        StringBuilder s = new StringBuilder();
        for (int what = 0; what <= 12; what++) {
            s.append(x.count(what)).append(' ');
        }
        for (int cell = 0; cell < x.count(0) * x.count(1); cell++) {
            s.append(x.cell(cell, 0)).append(x.cell(cell, 1) == 1 ? "w " : " ");
        }
        for (int flag = 0; flag < x.count(2); flag++) {
            s.append(x.flag(flag, 0)).append(':').append(x.flag(flag, 3)).append(' ');
        }
        return s.toString();
    }

    /** HEIGHTS of all cells, row by row. */
    static String heights(TideCastle x) {
        StringBuilder s = new StringBuilder();
        for (int cell = 0; cell < x.count(0) * x.count(1); cell++) {
            s.append(x.cell(cell, 0));
        }
        return s.toString();
    }

    /** STRENGTHS of the WAVE to come in all cells. */
    static String strengths(TideCastle x) {
        StringBuilder s = new StringBuilder();
        for (int cell = 0; cell < x.count(0) * x.count(1); cell++) {
            s.append(s.length() == 0 ? "" : " ").append(x.cell(cell, 3));
        }
        return s.toString();
    }

    static String padded(String text, int length) {
        return text + " ".repeat(length - text.length());
    }
}
