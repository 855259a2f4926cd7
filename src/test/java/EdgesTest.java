/** Every boundary case of the document, sentence by sentence. */
public final class EdgesTest {
    public static void main(String[] args) {
        TermsEdges.run();
        TextEdges.run();
        FateEdges.run();
        TriedEdges.run();
        KeptEdges.run();
        LookEdges.run();
        DeedEdges.run();
        AskedEdges.run();
        Edge.allQuoted();
        Check.end();
    }
}
