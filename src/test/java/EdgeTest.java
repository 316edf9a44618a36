/** The boundary cases that the document names, sentence by sentence, in its order. */
public final class EdgeTest {
    public static void main(String[] args) {
        LanguageEdges.run();
        RoundsEdges.run();
        CallsEdges.run();
        Edge.everySentence();
        Check.end("EdgeTest");
    }
}
