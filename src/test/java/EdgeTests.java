import java.io.IOException;

/** For each sentence of the document that names a boundary: the boundary, and its neighbour on the other side. */
public final class EdgeTests {
    public static void main(String[] args) throws IOException {
        Sentences said = new Sentences();
        Edges[] groups = {new GridEdges(said), new ListEdges(said), new AskEdges(said), new EntryEdges(said),
            new FillingEdges(said), new GoOnEdges(said), new ShapeEdges(said), new MoveEdges(said), new ToldEdges(said)};
        for (Edges group : groups) {
            group.all();
        }
        said.end("EdgeTests");
    }
}
