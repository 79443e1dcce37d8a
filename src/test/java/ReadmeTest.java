import java.io.IOException;
import java.lang.reflect.InvocationTargetException;
import java.lang.reflect.Method;
import java.nio.file.Files;
import java.nio.file.Path;
import java.util.Set;
import java.util.TreeSet;
import java.util.regex.Matcher;
import java.util.regex.Pattern;

/** The examples of README.md: each call answers what stands behind it; each method is told of once. */
public final class ReadmeTest {
    private static final Pattern FED = Pattern.compile("feed\\(x, \"(.*)\"\\);");
    private static final Pattern CALLED = Pattern.compile("x\\.(\\w+)\\((.*?)\\); +// (\\S+?)(:? .*)?");
    private static final Pattern TOLD = Pattern.compile("`(\\w+)` (\\d+)");
    private static final Check CHECK = new Check();

    public static void main(String[] args) throws IOException {
        String readme = Files.readString(Path.of("README.md"));
        String[] blocks = readme.split("```java\n|```\n");
        String mine = Files.readString(Path.of("src/test/java/ReadmeTest.java"));
        CHECK.due("README's feed is the one of this test", true, () -> mine.contains(blocks[1].trim().replace("\n", "\n    ")));
        runs(blocks[3]);
        tells(readme.substring(readme.indexOf("| to do |"), readme.indexOf("Sets (of")));
        CHECK.end();
    }

    static void feed(DayTables x, String text) {
        for (int at = 0; at < text.length(); at += 20) {
            int[] n = new int[5];
            for (int i = 0; i < 20; i++) {
                n[i / 4] = n[i / 4] << 8 | (at + i < text.length() ? text.charAt(at + i) : 0);
            }
            x.feed(n[0], n[1], n[2], n[3], n[4]);
        }
        x.end(text.length());
    }

    private static void runs(String block) {
        DayTables x = new DayTables();
        for (String line : block.trim().split("\n")) {
            Matcher fed = FED.matcher(line);
            Matcher called = CALLED.matcher(line);
            if (fed.matches()) {
                feed(x, fed.group(1));
            } else if (called.matches()) {
                String want = called.group(1).equals("image") ? "null" : called.group(3);
                CHECK.due(line, want, () -> answer(x, called.group(1), called.group(2)));
            } else {
                CHECK.due("a line that makes the object", "DayTables x = new DayTables();", () -> line);
            }
        }
    }

    private static String answer(DayTables x, String name, String told) {
        String[] words = told.isEmpty() ? new String[0] : told.split(", ");
        Object[] numbers = new Object[words.length];
        Class<?>[] types = new Class<?>[words.length];
        for (int i = 0; i < words.length; i++) {
            boolean isWord = words[i].equals("true") || words[i].equals("false");
            types[i] = isWord ? boolean.class : int.class;
            numbers[i] = isWord ? (Object) Boolean.valueOf(words[i]) : (Object) Integer.decode(words[i]);
        }
        try {
            Method method = DayTables.class.getMethod(name, types);
            return String.valueOf(method.invoke(x, numbers));
        } catch (InvocationTargetException e) {
            return "throws." + e.getCause().getClass().getSimpleName();
        } catch (ReflectiveOperationException e) {
            return "no such method";
        }
    }

    /** Each method with the number of its promise. */
    private static void tells(String table) throws IOException {
        Set<String> want = new TreeSet<>();
        Matcher promise = Pattern.compile("## Promise (\\d+): (\\w+)\n").matcher(Files.readString(Path.of("../shared/DOC.md")));
        while (promise.find()) {
            want.add(promise.group(2) + " " + promise.group(1));
        }
        Set<String> got = new TreeSet<>();
        int many = 0;
        Matcher told = TOLD.matcher(table);
        while (told.find()) {
            got.add(told.group(1) + " " + told.group(2));
            many++;
        }
        int each = many;
        CHECK.due("each method with its promise", want, () -> got);
        CHECK.due("each once", 41, () -> each);
    }
}
