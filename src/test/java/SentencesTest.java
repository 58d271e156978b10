import java.io.IOException;

/**
 * For each sentence of promises 1 to 27 and of "Terms" the boundary cases that it names. It fails, too, if a
 * sentence that is cited does not stand in the document, or if one of these sections has a sentence that no
 * test cites.
 */
public final class SentencesTest {
    private SentencesTest() {
    }

    public static void main(String[] args) throws IOException {
        Sentences doc = new Sentences();
        new TermsSentences(doc).check();
        new BoardSentences(doc).check();
        new TextSentences(doc).check();
        new OperationSentences(doc).check();
        new LeaseSentences(doc).check();
        new MarkSentences(doc).check();
        new QuestionSentences(doc).check();
        new PropertySentences(doc).check();
        doc.end();
    }
}
