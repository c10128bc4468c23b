import java.io.IOException;

/**
 * Each sentence of the document, its boundary cases with it: too small, too large, empty, full, a wrap-around,
 * a refused call. What fails is named by the place and the words of the sentence.
 */
final class EdgesTest {
    public static void main(String[] args) throws IOException {
        Edges edges = new Edges();
        FaceEdges.run(edges);
        TermEdges.run(edges);
        CallEdges.run(edges);
        CounterEdges.run(edges);
        PromiseEdges.run(edges);
        TextEdges.run(edges);
        LookEdges.run(edges);
        WouldBeEdges.run(edges);
        edges.end();
    }
}
