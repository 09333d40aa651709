import java.io.IOException;

/**
 * Each sentence of the document, from its first line to its last, has a test of its own here, which
 * quotes it: at the last value that is allowed and at the first that is not, on both sides.
 */
public final class EdgesTest {
    private EdgesTest() {}

    public static void main(String[] args) throws IOException, InterruptedException {
        Checks checks = new Checks();
        Document document = new Document(checks);
        new WholeEdges(checks, document).run();
        new TermsEdges(checks, document).run();
        new ChangesEdges(checks, document).run();
        new QuestionsEdges(checks, document).run();
        new RefusalEdges(checks, document).run();
        new LastCallEdges(checks, document).run();
        document.nothingIsLeft();
        checks.end("EdgesTest");
    }
}
