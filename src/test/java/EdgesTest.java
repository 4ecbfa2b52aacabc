import java.io.IOException;
import java.nio.file.Path;

/** Each sentence of the document that names a boundary case, by itself; the document's words are looked for in it. */
public final class EdgesTest {
    public static void main(String[] args) throws IOException {
        Edges e = new Edges();
        TermsEdges.all(e);
        TextEdges.all(e);
        ActEdges.all(e);
        QuestionEdges.all(e);
        GuessEdges.all(e);
        e.holdAgainst(Path.of(System.getProperty("shared", "../shared"), "DOC.md"));
        e.close();
    }
}
