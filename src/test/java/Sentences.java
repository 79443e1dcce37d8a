import java.io.IOException;
import java.nio.file.Files;
import java.nio.file.Path;
import java.util.Set;
import java.util.TreeSet;

/** Tests that name the promise and the sentence of ../shared/DOC.md that they hold to. */
final class Sentences {
    static final String INDEX = "throws.IndexOutOfBoundsException";
    static final String ARGUMENT = "throws.IllegalArgumentException";
    static final String STATE = "throws.IllegalStateException";
    static final String ELEMENT = "throws.NoSuchElementException";
    static final String UNSUPPORTED = "throws.UnsupportedOperationException";

    private final Check check = new Check();
    private final Set<Integer> promises = new TreeSet<>();
    private final String doc;
    private String at = "";
    private boolean tested = true;

    Sentences() throws IOException {
        doc = Files.readString(Path.of("../shared/DOC.md")).replaceAll("\\s+", " ");
    }

    /** What is due from here on holds to this sentence, which must stand in the document word for word. */
    void holds(int promise, String sentence) {
        closeSentence();
        promises.add(promise);
        at = "promise " + promise + ", \"" + sentence + "\": ";
        tested = false;
        check.due(at + "stands in the document", true, () -> doc.contains(sentence));
    }

    private void closeSentence() {
        boolean was = tested;
        check.due(at + "has a test", true, () -> was);
    }

    void due(String what, Object want, Check.Call call) {
        tested = true;
        check.due(at + what, want, call);
    }

    /** Of many calls on one object the answers, parted by blanks. */
    void dues(String what, String want, Check.Call... calls) {
        due(what, want, () -> Check.answers(calls));
    }

    void end(int count) {
        closeSentence();
        check.due("promises with a sentence", count, promises::size);
        check.end();
    }
}
