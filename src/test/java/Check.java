import java.nio.charset.StandardCharsets;

/** What the tests share: texts fed, answers told as words, and a count of the wrong ones. */
final class Check {
    interface Call {
        Object answer();
    }

    private int asked;
    private int wrong;

    static byte[] bytes(String text) {
        return text.getBytes(StandardCharsets.ISO_8859_1);
    }

    static byte[] bytes(int... numbers) {
        byte[] all = new byte[numbers.length];
        for (int i = 0; i < numbers.length; i++) {
            all[i] = (byte) numbers[i];
        }
        return all;
    }

    /** The TAPE then has these bytes alone behind what it had. */
    static void feed(DayTables x, byte[] text) {
        int before = 0;
        for (int at = 0; at < text.length; at += 20) {
            int[] n = new int[5];
            for (int i = 0; i < 20; i++) {
                int b = at + i < text.length ? text[at + i] & 255 : 0;
                n[i / 4] = n[i / 4] << 8 | b;
            }
            before = x.feed(n[0], n[1], n[2], n[3], n[4]);
        }
        if (text.length > 0) {
            int over = (20 - text.length % 20) % 20;
            x.end(before - over);
        }
    }

    static int country(DayTables x, String text) {
        feed(x, bytes(text));
        return x.country();
    }

    static int law(DayTables x, String text) {
        feed(x, bytes(text));
        return x.law();
    }

    static DayTables land(String... texts) {
        DayTables x = new DayTables();
        for (String text : texts) {
            country(x, text);
        }
        return x;
    }

    static String said(Call call) {
        try {
            return String.valueOf(call.answer());
        } catch (RuntimeException e) {
            return "throws." + e.getClass().getSimpleName();
        }
    }

    /** Of many calls the answers, parted by blanks. */
    static String answers(Call... calls) {
        StringBuilder all = new StringBuilder();
        for (Call call : calls) {
            all.append(all.length() == 0 ? "" : " ").append(said(call));
        }
        return all.toString();
    }

    /** All that an object tells of itself, but for what is told by texts alone and never changes; in few calls. */
    static String all(DayTables x) {
        int[] counts = new int[19];
        StringBuilder text = new StringBuilder();
        for (int what = 0; what < counts.length; what++) {
            counts[what] = x.count(what);
            text.append(counts[what]).append(' ');
        }
        for (int p = 0; p < counts[1]; p++) {
            for (int what = 0; what < 7; what++) {
                text.append(x.person(p, what)).append(' ');
            }
        }
        for (int v = 0; v < counts[0]; v++) {
            for (int page = 0; page < counts[9]; page++) {
                text.append(x.day(v, page)).append(' ');
            }
        }
        for (int d = 0; d < counts[4]; d++) {
            text.append(x.debt(d, 6)).append(' ');
        }
        for (int t = 0; t < counts[5]; t++) {
            text.append(x.task(t, 3)).append(' ').append(x.task(t, 4)).append(' ');
        }
        for (int ago = 0; ago < counts[17]; ago++) {
            text.append(x.log(ago, 0)).append(x.log(ago, 1)).append(x.log(ago, 2)).append(x.log(ago, 3)).append(' ');
        }
        int seed = x.seed(0);
        x.seed(seed);
        return text.append(seed).toString();
    }

    void due(String what, Object want, Call call) {
        String got = said(call);
        asked++;
        if (!got.equals(String.valueOf(want))) {
            wrong++;
            System.out.println(what + " answered " + got + ", due is " + want);
        }
    }

    void end() {
        System.out.println(asked + " answers looked at, " + wrong + " wrong");
        if (wrong != 0 || asked == 0) {
            System.exit(1);
        }
    }
}
