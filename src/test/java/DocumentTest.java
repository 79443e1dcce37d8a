import java.io.IOException;

/** ../shared/DOC.md from its first line to its last, word for word, with what is due by each sentence. */
public final class DocumentTest {
    public static void main(String[] args) throws IOException {
        Walk w = new Walk();
        new WalkOfTerms(w).all();
        new WalkOfDawns(w).all();
        new WalkOfWays(w).all();
        new WalkOfPromises(w).all();
        w.end();
    }
}
