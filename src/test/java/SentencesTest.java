/** Each sentence of the document that tells of an edge, by a test of its own. */
public final class SentencesTest {
    private SentencesTest() {
    }

    public static void main(String[] args) throws Exception {
        Sentences.readDocument();
        TermsSentences.run();
        RefusalSentences.run();
        PromiseSentences.run();
        if (!Sentences.end()) {
            System.exit(1);
        }
    }
}
