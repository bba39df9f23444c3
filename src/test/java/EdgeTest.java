import java.io.IOException;
import java.nio.file.Path;

/** Each sentence of the document that names a boundary case, in a test of its own that quotes it. */
public final class EdgeTest {
    private static final Path DOCUMENT = Path.of("..", "shared", "DOC.md");

    public static void main(String[] args) throws IOException {
        SentenceEdges.run();
        HeadEdges.run();
        TextEdges.run();
        SavedEdges.run();
        LookEdges.run();
        WouldBeEdges.run();
        Document.compare(DOCUMENT, Edges.QUOTES);
        Check.end("EdgeTest");
    }
}
