import java.io.IOException;
import java.nio.file.Files;
import java.nio.file.Path;

/** Each sentence of the document that names an edge has a run of its own, on both sides where it has two. */
public final class EdgeTest {
    public static void main(String[] args) throws IOException {
        Edges edges = new Edges(Files.readString(Path.of(args[1])));
        AnswerEdges.all(edges);
        TokenEdges.all(edges);
        TextEdges.all(edges);
        ChangeEdges.all(edges);
        AskEdges.all(edges);
        RowEdges.all(edges);
        ChanceEdges.all(edges);
        SheetEdges.all(edges);
        edges.end();
    }
}
