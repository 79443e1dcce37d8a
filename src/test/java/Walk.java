import java.io.IOException;
import java.nio.file.Files;
import java.nio.file.Path;
import java.util.function.IntUnaryOperator;

/** Goes through ../shared/DOC.md word for word; what is due stands behind the words that it holds to. */
final class Walk {
    private final Check check = new Check();
    private final String doc;
    private int at;
    private String words = "";
    private boolean tested = true;

    Walk() throws IOException {
        doc = Files.readString(Path.of("../shared/DOC.md")).replaceAll("\\s+", " ").trim();
    }

    /** The document goes on with these words, and some answer is due by them. */
    void reads(String next) {
        passes(next);
        words = next;
        tested = false;
    }

    /** The document goes on with these words, which promise nothing by themselves. */
    void passes(String next) {
        close();
        skipBlank();
        int here = at;
        int found = doc.indexOf(next, here);
        check.due("the document goes on with \"" + next + "\"", true, () -> found == here);
        at = found < 0 ? here : found + next.length();
    }

    /** The document goes on with what another test holds to, up to these words. */
    void passesTo(String next) {
        close();
        int found = doc.indexOf(next, at);
        check.due("the document goes on, up to \"" + next + "\"", true, () -> found >= 0);
        at = found < 0 ? at : found;
    }

    /** The heading of a promise, and its method as the face has it. */
    void promise(int number, String name, String method) {
        passes("## Promise " + number + ": " + name + " `" + method + "`:");
        check.due("the face has " + method, true, () -> doc.contains("public " + method + ";"));
    }

    void due(String what, Object want, Check.Call call) {
        tested = true;
        check.due("\"" + words + "\": " + what, want, call);
    }

    /** Of many calls on one object the answers, parted by blanks. */
    void dues(String what, String want, Check.Call... calls) {
        due(what, want, () -> Check.answers(calls));
    }

    /** What telling a text of THE COUNTRY answers, or where the text is wrong. */
    static String country(DayTables x, String text) {
        String said = Check.said(() -> Check.country(x, text));
        return said.equals(Sentences.ARGUMENT) ? "wrong at " + x.fault() : said;
    }

    static String law(DayTables x, String text) {
        String said = Check.said(() -> Check.law(x, text));
        return said.equals(Sentences.ARGUMENT) ? "wrong at " + x.fault() : said;
    }

    /** The answers for 0, 1 and so on, parted by blanks. */
    static String row(int many, IntUnaryOperator of) {
        StringBuilder all = new StringBuilder();
        for (int i = 0; i < many; i++) {
            all.append(i == 0 ? "" : " ").append(of.applyAsInt(i));
        }
        return all.toString();
    }

    static String repeated(String line, int times) {
        return line + (";" + line).repeat(times - 1);
    }

    void end() {
        close();
        skipBlank();
        check.due("the document ends", doc.length(), () -> at);
        check.end();
    }

    private void skipBlank() {
        if (at < doc.length() && doc.charAt(at) == ' ') {
            at++;
        }
    }

    private void close() {
        boolean was = tested;
        check.due("\"" + words + "\" has a test", true, () -> was);
    }
}
