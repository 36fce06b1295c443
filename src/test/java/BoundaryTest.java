import java.io.IOException;

/** Every sentence of the document that names a boundary, promise by promise, with the words it has there. */
public final class BoundaryTest {
    public static void main(String[] args) throws IOException {
        Edges e = new Edges();
        EdgeTerms.run(e);
        EdgeShelves.run(e);
        EdgeRink.run(e);
        EdgeTape.run(e);
        EdgeThought.run(e);
        EdgeBooks.run(e);
        EdgeTruth.run(e);
        e.end("BoundaryTest");
    }
}
