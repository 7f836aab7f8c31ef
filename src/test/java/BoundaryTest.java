import java.io.IOException;
import java.nio.file.Path;

/**
 * The edges that the document names: for each sentence that names one tests of its own, which tell the promise and the
 * sentence when they fail. With an argument it prints the names of all its tests.
 */
public final class BoundaryTest {
    private static final int PROMISES = 33;

    public static void main(String[] args) throws IOException {
        Edges e = new Edges(Path.of("../shared/DOC.md"), args.length > 0);
        EdgesOfPupils.all(e);
        EdgesOfDays.all(e);
        EdgesOfMarches.all(e);
        EdgesOfTexts.all(e);
        EdgesOfUndo.all(e);
        EdgesOfLooks.all(e);
        EdgesOfRefusals.all(e);
        e.end("BoundaryTest", PROMISES);
    }
}
