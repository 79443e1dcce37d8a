import java.nio.charset.StandardCharsets;

/** What the tests share: texts fed, answers told as words, and a count of the wrong ones. */
final class Check {
    interface Call {
        Object answer();
    }

    private int asked;
    private int wrong;

    static byte[] bytes(String text) {
        return text.getBytes(StandardCharsets.ISO_8859_1);
    }

    static byte[] bytes(int... numbers) {
        byte[] all = new byte[numbers.length];
        for (int i = 0; i < numbers.length; i++) {
            all[i] = (byte) numbers[i];
        }
        return all;
    }

    /** The TAPE then has these bytes alone behind what it had. */
    static void feed(DayTables x, byte[] text) {
        int before = 0;
        for (int at = 0; at < text.length; at += 20) {
            int[] n = new int[5];
            for (int i = 0; i < 20; i++) {
                int b = at + i < text.length ? text[at + i] & 255 : 0;
                n[i / 4] = n[i / 4] << 8 | b;
            }
            before = x.feed(n[0], n[1], n[2], n[3], n[4]);
        }
        if (text.length > 0) {
            int over = (20 - text.length % 20) % 20;
            x.end(before - over);
        }
    }

    static int country(DayTables x, String text) {
        feed(x, bytes(text));
        return x.country();
    }

    static int law(DayTables x, String text) {
        feed(x, bytes(text));
        return x.law();
    }

    static DayTables land(String... texts) {
        DayTables x = new DayTables();
        for (String text : texts) {
            country(x, text);
        }
        return x;
    }

    static String said(Call call) {
        try {
            return String.valueOf(call.answer());
        } catch (RuntimeException e) {
            return "throws." + e.getClass().getSimpleName();
        }
    }

    void due(String what, Object want, Call call) {
        String got = said(call);
        asked++;
        if (!got.equals(String.valueOf(want))) {
            wrong++;
            System.out.println(what + " answered " + got + ", due is " + want);
        }
    }

    void end() {
        System.out.println(asked + " answers looked at, " + wrong + " wrong");
        if (wrong != 0 || asked == 0) {
            System.exit(1);
        }
    }
}
