import java.lang.reflect.InvocationTargetException;
import java.lang.reflect.Method;
import java.lang.reflect.Modifier;
import java.util.ArrayList;
import java.util.Arrays;
import java.util.Comparator;
import java.util.List;
import java.util.Random;

/** Every method of the face with numbers far beyond what can be: the model's answer, or what the face declares. */
public final class AnyNumbersTest {
    private static final int[] NUMBERS = {Integer.MIN_VALUE, Integer.MIN_VALUE + 1, -1000001, -2, -1, 0, 1, 2, 3, 5, 6, 7, 8, 11,
        12, 19, 20, 60, 61, 199, 200, 201, 255, 400, 401, 9999, 10000, 1000000, 1000001, Integer.MAX_VALUE - 1, Integer.MAX_VALUE};
    private static final String[] LANDS = {
        "",
        "days 3;village 2 0 1",
        "days 4;village 0 1 2 3;village 2 0 3 1;road 0 1 1;road 0 1 5;person 0 10;person 1 9999;fact 0 2;fact 1 3;"
            + "feast 3;chance 70;debt 0 1 5 in 0 made 3 due 1;task 1 3;task 0 0 after 0",
        "days 16;village 0 1 2 3 4 5 6 7 8 9 10 11 12 13 14 15;person 0 0;task 0 15;feast 15;fact 0 15"};
    private static final Check CHECK = new Check();

    public static void main(String[] args) {
        List<Method> face = new ArrayList<>();
        for (Method method : DayTables.class.getDeclaredMethods()) {
            if (Modifier.isPublic(method.getModifiers())) {
                face.add(method);
            }
        }
        face.sort(Comparator.comparing(Method::getName));
        for (int run = 0; run < 120; run++) {
            play(face, new Random(run), LANDS[run % LANDS.length]);
        }
        CHECK.end();
    }

    private static void play(List<Method> face, Random random, String land) {
        DayTables x = new DayTables();
        Model m = new Model();
        tellBoth(x, m, land);
        StringBuilder calls = new StringBuilder(land);
        for (int i = 0; i < 480; i++) {
            Method method = face.get(random.nextInt(face.size()));
            Object[] numbers = new Object[method.getParameterCount()];
            for (int n = 0; n < numbers.length; n++) {
                boolean isInt = method.getParameterTypes()[n] == int.class;
                int number = random.nextInt(3) > 0 ? random.nextInt(4) - 1 : NUMBERS[random.nextInt(NUMBERS.length)];
                numbers[n] = isInt ? (Object) number : (Object) random.nextBoolean();
            }
            calls.append('\n').append(method.getName()).append(Arrays.toString(numbers));
            String want = said(other(method), m, numbers);
            CHECK.due(calls.toString(), want, () -> said(method, x, numbers));
            CHECK.due(method.getName() + " declares " + want, true, () -> isDeclared(method, want));
        }
    }

    private static void tellBoth(DayTables x, Model m, String land) {
        byte[] text = Check.bytes(land);
        byte[] all = Arrays.copyOf(text, (text.length + 19) / 20 * 20);
        java.nio.ByteBuffer ints = java.nio.ByteBuffer.wrap(all);
        while (ints.hasRemaining()) {
            int[] n = {ints.getInt(), ints.getInt(), ints.getInt(), ints.getInt(), ints.getInt()};
            x.feed(n[0], n[1], n[2], n[3], n[4]);
            m.feed(n[0], n[1], n[2], n[3], n[4]);
        }
        x.end(text.length);
        m.end(text.length);
        CHECK.due("country " + land, m.country(), x::country);
    }

    private static Method other(Method method) {
        try {
            return Model.class.getDeclaredMethod(method.getName(), method.getParameterTypes());
        } catch (NoSuchMethodException e) {
            throw new IllegalStateException(e);
        }
    }

    private static String said(Method method, Object object, Object[] numbers) {
        try {
            return String.valueOf(method.invoke(object, numbers));
        } catch (InvocationTargetException e) {
            return "throws." + e.getCause().getClass().getSimpleName();
        } catch (IllegalAccessException e) {
            throw new IllegalStateException(e);
        }
    }

    private static boolean isDeclared(Method method, String said) {
        boolean declared = !said.startsWith("throws.");
        for (Class<?> type : method.getExceptionTypes()) {
            declared |= said.equals("throws." + type.getSimpleName());
        }
        return declared;
    }
}
