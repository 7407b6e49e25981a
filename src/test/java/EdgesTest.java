import java.io.IOException;

/** Each sentence of the document that names a boundary, held on both sides of it. */
public final class EdgesTest {
    public static void main(String[] args) throws IOException {
        Sentences sentences = new Sentences();
        Edges[] parts = {new TermsEdges(sentences), new ActsEdges(sentences), new RingingEdges(sentences),
            new PromiseEdges(sentences)};
        for (Edges part : parts) {
            part.all();
        }
        sentences.end();
    }
}
