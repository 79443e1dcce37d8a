import java.io.IOException;

/** Each sentence of the document that names an edge, by promise: too small, too large, empty, full, refused. */
public final class EdgesTest {
    public static void main(String[] args) throws IOException {
        Sentences s = new Sentences();
        new EdgesOfTexts(s).all();
        new EdgesOfLife(s).all();
        new EdgesOfWays(s).all();
        new EdgesOfTables(s).all();
        new EdgesOfFull(s).all();
        s.end(42);
    }
}
