import java.io.IOException;

/** Each sentence of the document's terms and promises, with a test of its own. */
public final class SentenceTests {
    private SentenceTests() {
    }

    public static void main(String[] args) throws IOException {
        Sentences.readDocument();
        TermSentences.check();
        RuleSentences.check();
        ChangeSentences.check();
        QuestionSentences.check();
        KeepingSentences.check();
        Sentences.allIsSaid();
        Check.finish();
    }
}
