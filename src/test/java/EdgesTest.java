import java.io.IOException;

/** Each sentence of the document that names an edge (too small, too large, empty, full, refused): a test of its own. */
public final class EdgesTest {
    public static void main(String[] args) throws IOException {
        Sentences sentences = new Sentences();
        new BoardEdges(sentences).all();
        new JumpEdges(sentences).all();
        new CourseEdges(sentences).all();
        new SeenEdges(sentences).all();
        sentences.end();
    }
}
