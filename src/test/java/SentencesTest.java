/** The document's sentences, each with a test of its own, and that none of them was left out. */
final class SentencesTest {
    public static void main(String[] args) throws Exception {
        Said.readDocument();
        FaceSentences.test();
        TermSentences.test();
        TextSentences.test();
        AnswerSentences.test();
        ChangeSentences.test();
        Said.end();
    }

    private SentencesTest() {
    }
}
