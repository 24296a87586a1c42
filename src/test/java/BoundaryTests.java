import java.io.IOException;

/** For each sentence of the document that names a boundary: its last input, the first beyond it, refusals. */
public final class BoundaryTests {
    public static void main(String[] args) throws IOException {
        Sentences.readDocument();
        TextBoundaries.all();
        HourBoundaries.all();
        PlanBoundaries.all();
        ClueBoundaries.all();
        SheetBoundaries.all();
        RefusalBoundaries.all();
        Sentences.findUnquoted();
        Sentences.end();
    }
}
