/** Every boundary case of the document, sentence by sentence, from its first line to its last. */
public final class EdgesTest {
    public static void main(String[] args) {
        StoryEdges.run();
        TermsEdges.run();
        TextEdges.run();
        FateEdges.run();
        TriedEdges.run();
        KeptEdges.run();
        LookEdges.run();
        DeedEdges.run();
        AskedEdges.run();
        Edge.allQuoted();
        Check.end();
    }
}
