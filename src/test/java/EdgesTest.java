/**
 * The boundary cases: each sentence of the document that names one is quoted, and has checks of its own.
 * What is left unquoted is found at the end.
 */
public final class EdgesTest {
    public static void main(String[] args) {
        TermsEdges.run();
        TextEdges.run();
        NightEdges.run();
        TriedEdges.run();
        EveningPromises.run();
        DeedPromises.run();
        TriedPromises.run();
        HeardPromises.run();
        Document.isCovered();
        Check.end("EdgesTest");
    }
}
