/** All promises: each sentence of the document has a test of its own, which quotes it. */
public final class SentenceTest {
    private SentenceTest() { }

    public static void main(String[] arguments) {
        Doc doc = new Doc();
        new TextSentences(doc).check();
        new ScreenSentences(doc).check();
        new WatchSentences(doc).check();
        new ControlSentences(doc).check();
        doc.end();
        Check.end();
    }
}
