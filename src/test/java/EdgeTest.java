import java.io.IOException;
import java.nio.file.Path;

/** The document sentence by sentence: what is too small, too large, empty, full, refused, and what wraps around. */
public final class EdgeTest {
    public static void main(String[] args) throws IOException {
        Sentences doc = new Sentences(Path.of("../shared/DOC.md"));
        new BeginningEdges(doc).run();
        new TextEdges(doc).run();
        new ActEdges(doc).run();
        new RowEdges(doc).run();
        new SearchEdges(doc).run();
        new CureEdges(doc).run();
        new PastEdges(doc).run();
        doc.close();
    }
}
