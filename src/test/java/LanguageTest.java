import java.io.IOException;
import java.lang.reflect.Field;
import java.lang.reflect.Method;
import java.lang.reflect.Modifier;
import java.nio.file.Files;
import java.nio.file.Path;
import java.util.ArrayList;
import java.util.Arrays;
import java.util.List;
import java.util.Set;
import java.util.TreeSet;
import java.util.regex.Matcher;
import java.util.regex.Pattern;

/** What can be seen of the rules of LANGUAGE.md in the source and in the compiled class. */
public final class LanguageTest {
    private static final Check CHECK = new Check();

    public static void main(String[] args) throws IOException {
        String source = Files.readString(Path.of("src/main/java/DayTables.java"));
        String code = source.replaceAll("(?s)/\\*.*?\\*/", "").replaceAll("//[^\n]*", "")
            .replaceAll("\"[^\"\n]*\"", "\"\"");
        face();
        classes();
        words(code);
        exceptions(code);
        lengths(code);
        CHECK.end();
    }

    private static void face() throws IOException {
        String doc = Files.readString(Path.of("../shared/DOC.md"));
        String block = doc.substring(doc.indexOf("```java"), doc.indexOf("## Terms"));
        Set<String> want = new TreeSet<>();
        Matcher m = Pattern.compile("public (\\w+) (\\w+)\\(([^)]*)\\)( throws ([\\w, ]+))?;").matcher(block);
        while (m.find()) {
            List<String> types = new ArrayList<>();
            for (String parameter : m.group(3).split(", ")) {
                types.add(parameter.split(" ")[0]);
            }
            want.add(m.group(1) + " " + m.group(2) + types + " " + (m.group(5) == null ? "" : m.group(5)));
        }
        Set<String> got = new TreeSet<>();
        for (Method method : DayTables.class.getDeclaredMethods()) {
            if (Modifier.isPublic(method.getModifiers())) {
                got.add(told(method));
            } else {
                CHECK.due("1 private: " + method, true, () -> Modifier.isPrivate(method.getModifiers()));
            }
        }
        CHECK.due("1 the face", want, () -> got);
        CHECK.due("1 forty-one methods", 41, got::size);
        CHECK.due("1 final and public", true, () -> Modifier.isFinal(DayTables.class.getModifiers())
            && Modifier.isPublic(DayTables.class.getModifiers()));
    }

    private static String told(Method method) {
        List<String> types = new ArrayList<>();
        for (Class<?> type : method.getParameterTypes()) {
            types.add(type.getName());
        }
        if (types.isEmpty()) {
            types.add("");
        }
        List<String> thrown = new ArrayList<>();
        for (Class<?> type : method.getExceptionTypes()) {
            thrown.add(type.getSimpleName());
        }
        return method.getReturnType().getName() + " " + method.getName() + types + " " + String.join(", ", thrown);
    }

    private static void classes() {
        Set<String> names = new TreeSet<>();
        for (Method method : DayTables.class.getDeclaredMethods()) {
            if (Modifier.isPublic(method.getModifiers())) {
                names.add(method.getName());
            }
        }
        List<Class<?>> all = new ArrayList<>(Arrays.asList(DayTables.class.getDeclaredClasses()));
        CHECK.due("11 classes", true, () -> all.size() < 13);
        for (Class<?> inner : all) {
            CHECK.due("1 static: " + inner, true, () -> Modifier.isStatic(inner.getModifiers()));
            for (Method method : inner.getDeclaredMethods()) {
                CHECK.due("1 name: " + method, false, () -> names.contains(method.getName()));
                CHECK.due("11 parameters: " + method, true, () -> method.getParameterCount() < 8);
            }
        }
        all.add(DayTables.class);
        for (Class<?> type : all) {
            int many = 0;
            for (Field field : type.getDeclaredFields()) {
                boolean isStatic = Modifier.isStatic(field.getModifiers());
                many += isStatic ? 0 : 1;
                boolean isNone = field.getName().equals("NONE");
                CHECK.due("1 field: " + field, isNone, () -> Modifier.isPublic(field.getModifiers()));
                if (isStatic) {
                    CHECK.due("5 constant: " + field, true, () -> Modifier.isFinal(field.getModifiers())
                        && field.getType() == int.class);
                }
            }
            int fields = many;
            CHECK.due("11 fields of " + type + ": " + fields, true, () -> fields < 21);
        }
    }

    private static void words(String code) {
        String[] never = {"->", "::", "\\bfinally\\b", "\\bsynchronized\\b", "\\bassert\\b", "\\btry\\b", "\\bcatch\\b",
            "\\bprotected\\b", "\\bpackage\\b", "Exact\\b", "\\bdouble\\b", "\\bfloat\\b", "\\bSystem\\.(?!arraycopy)",
            "\\bhashCode\\b", "\\btoString\\b", "\\bstatic \\{", "\\bMAX_VALUE\\b", "\\bMIN_VALUE\\b", "\\bvar\\b"};
        for (String word : never) {
            CHECK.due("never " + word, false, () -> Pattern.compile(word).matcher(code).find());
        }
        List<String> imports = new ArrayList<>();
        Matcher m = Pattern.compile("import ([\\w.]+);").matcher(code);
        while (m.find()) {
            imports.add(m.group(1));
        }
        CHECK.due("4 imports", List.of("java.util.Arrays", "java.util.NoSuchElementException"), () -> imports);
        Matcher calls = Pattern.compile("\\b(Math|Integer|Arrays|System)\\.(\\w+)").matcher(code);
        Set<String> library = Set.of("Math.max", "Math.min", "Math.floorMod", "Math.floorDiv", "Integer.bitCount",
            "Arrays.fill", "System.arraycopy");
        while (calls.find()) {
            String call = calls.group();
            CHECK.due("4 library: " + call, true, () -> library.contains(call));
        }
    }

    private static void exceptions(String code) {
        Set<String> known = Set.of("IllegalStateException", "IllegalArgumentException", "IndexOutOfBoundsException",
            "ArithmeticException", "UnsupportedOperationException", "NoSuchElementException", "RuntimeException");
        Matcher m = Pattern.compile("\\bthrow\\b([^;]*);").matcher(code);
        while (m.find()) {
            String what = m.group(1).trim();
            CHECK.due("6 throw " + what, true, () -> what.matches("new \\w+\\((\"\")?\\)")
                && known.contains(what.replaceAll("new (\\w+).*", "$1")));
        }
    }

    /** A method begins at a line that ends in { and is as deep as members are; it ends at a } as deep. */
    private static void lengths(String code) {
        String[] lines = code.split("\n");
        for (int deep = 4; deep <= 8; deep += 4) {
            String margin = " ".repeat(deep);
            for (int i = 0; i < lines.length; i++) {
                String begin = lines[i];
                boolean method = begin.startsWith(margin) && !begin.startsWith(margin + " ")
                    && begin.endsWith("{") && begin.contains("(") && !begin.contains("class ");
                int end = i;
                while (method && !lines[end].equals(margin + "}")) {
                    end++;
                }
                int length = end - i + 1;
                CHECK.due("11 length " + length + ": " + begin.trim(), true, () -> length <= 60);
            }
        }
    }
}
