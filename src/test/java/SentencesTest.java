import java.io.IOException;

/** Each sentence of the document that names a boundary case, held to on its own. */
public final class SentencesTest {
    public static void main(String[] args) throws IOException {
        Sentences s = new Sentences();
        BeachSentences.all(s);
        RuleSentences.all(s);
        WaveSentences.all(s);
        AskSentences.all(s);
        CallSentences.all(s);
        s.close();
    }
}
