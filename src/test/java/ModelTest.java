import java.util.Random;

/** Random runs of calls, each answered by DayTables and by Model alike. */
public final class ModelTest {
    /** Behind its 512th call an object may answer anything; one more of these makes up to 24. */
    private static final int CALLS = 488;

    private final Random random;
    private final int run;
    private final DayTables x = new DayTables();
    private final Model m = new Model();
    private final StringBuilder calls = new StringBuilder();
    private int wrong;
    private int used;
    private static long asked;

    private ModelTest(int run) {
        this.run = run;
        this.random = new Random(run);
    }

    public static void main(String[] args) {
        int runs = args.length > 0 ? Integer.parseInt(args[0]) : 400;
        int from = args.length > 1 ? Integer.parseInt(args[1]) : 0;
        int wrong = 0;
        for (int run = from; run < from + runs && wrong == 0; run++) {
            wrong += new ModelTest(run).play();
        }
        System.out.println(runs + " runs, " + asked + " calls, " + wrong + " wrong");
        if (wrong != 0) {
            System.exit(1);
        }
    }

    private int play() {
        tellLand();
        while (used <= CALLS && wrong == 0) {
            call();
        }
        return wrong;
    }

    private void same(String call, Check.Call mine, Check.Call theirs) {
        String got = Check.said(mine);
        String want = Check.said(theirs);
        calls.append(call).append(" -> ").append(got).append('\n');
        used++;
        asked++;
        if (!got.equals(want) && wrong == 0) {
            wrong++;
            System.out.println("run " + run + ":\n" + calls + "but the model answers " + want);
        }
    }

    private int n(int below) {
        return random.nextInt(below);
    }

    private boolean odds(int percent) {
        return n(100) < percent;
    }

    /** Mostly one that there is; now and then one beyond either end. */
    private int one(int count) {
        int many = m.count(count);
        if (many == 0 || odds(2)) {
            return n(4) == 0 ? -1 : many + n(3);
        }
        return n(many);
    }

    private int aDay() {
        return odds(2) ? n(3) - 2 + (n(2) * m.count(9)) : n(m.count(9));
    }

    // ---- texts

    private void feed(byte[] text) {
        int have = 0;
        for (int at = 0; at < text.length; at += 20) {
            int[] w = new int[5];
            for (int i = 0; i < 20; i++) {
                w[i / 4] = w[i / 4] << 8 | (at + i < text.length ? text[at + i] & 255 : 0);
            }
            have = x.feed(w[0], w[1], w[2], w[3], w[4]);
            used++;
            m.feed(w[0], w[1], w[2], w[3], w[4]);
        }
        int cut = text.length == 0 ? 0 : have - (20 - text.length % 20) % 20;
        same("end " + cut, () -> x.end(cut), () -> m.end(cut));
    }

    private String blanks() {
        return odds(4) ? " ".repeat(1 + n(3)) : "";
    }

    private String table() {
        int days = m.count(9);
        int[] table = new int[days];
        for (int i = 0; i < days; i++) {
            int j = n(i + 1);
            table[i] = table[j];
            table[j] = i;
        }
        StringBuilder text = new StringBuilder("village");
        for (int day : table) {
            text.append(' ').append(day);
        }
        return text.toString();
    }

    private String countryLine(int kind) {
        int v = Math.max(1, m.count(0));
        int p = Math.max(1, m.count(1));
        int d = m.count(9);
        int made = n(d);
        int villages = n(v);
        switch (kind) {
            case 0: return table();
            case 1: case 2: return "person " + n(v) + " " + (odds(30) ? 9990 + n(10) : n(40));
            case 3: case 4: return "fact " + n(v) + " " + n(d);
            case 5: case 6: case 7: return "road " + villages + " " + (villages + 1 + n(Math.max(1, v - 1))) % v + " " + (1 + n(5));
            case 8: return "feast " + n(d);
            case 9: {
                int one = n(p);
                return "debt " + one + " " + (one + 1 + n(Math.max(1, p - 1))) % p + " " + (1 + n(odds(30) ? 999 : 20)) + " in " + n(v)
                    + " made " + made + " due " + (made + 1 + n(d - 1)) % d;
            }
            case 10: case 11: return "task " + n(v) + " " + n(d) + (m.count(5) > 0 && odds(40) ? " after " + n(m.count(5)) : "");
            case 12: return "chance " + n(101);
            case 13: return "misprint " + n(v) + " " + n(d) + " " + n(d);
            default: return odds(90) ? "feast " + n(d) : "days " + (3 + n(14));
        }
    }

    private String lines(boolean country, int many) {
        StringBuilder text = new StringBuilder(blanks());
        for (int i = 0; i < many; i++) {
            String line = country ? countryLine(n(15)) : lawLine();
            if (text.length() + line.length() > 380) {
                break;
            }
            text.append(i == 0 ? "" : ";").append(blanks());
            for (String part : line.split(" ")) {
                boolean tight = odds(5) && text.length() > 0 && Character.isLetter(text.charAt(text.length() - 1))
                    && Character.isDigit(part.charAt(0));
                text.append(tight || text.length() == 0 || text.charAt(text.length() - 1) == ';' ? "" : " ").append(part).append(blanks());
            }
        }
        return text.toString();
    }

    private byte[] text(boolean country, int many) {
        String text = lines(country, many);
        if (text.length() > 400) {
            text = text.substring(0, 400);
        }
        byte[] bytes = Check.bytes(text);
        if (odds(25) && bytes.length > 0) {
            spoil(bytes);
        }
        return odds(5) ? java.util.Arrays.copyOf(bytes, n(bytes.length + 1)) : bytes;
    }

    private void spoil(byte[] bytes) {
        String signs = "0123456789;() <>+abz\u00e9A-";
        bytes[n(bytes.length)] = (byte) signs.charAt(n(signs.length()));
    }

    private String lawLine() {
        String head = odds(40) ? "bar" : odds(30) ? "hush" : "earn " + n(odds(10) ? 102 : 20);
        return odds(12) ? head : head + " if " + condition(0);
    }

    private String condition(int deep) {
        String text = atom(deep);
        while (odds(25)) {
            text += (odds(50) ? " and " : " or ") + atom(deep);
        }
        return text;
    }

    private String atom(int deep) {
        switch (n(deep > 7 ? 4 : 7)) {
            case 0: return "again";
            case 1: return "feast";
            case 4: return "not " + atom(deep + 1);
            case 5: return "( " + condition(deep + 1) + " )";
            default: return sum() + (odds(50) ? " < " : " > ") + sum();
        }
    }

    private String sum() {
        String[] parts = {"person", "village", "day", "page", "printing", "known", "lived", "coins"};
        String text = odds(50) ? String.valueOf(n(odds(80) ? 6 : 1002)) : parts[n(parts.length)];
        return odds(20) ? text + " + " + sum() : text;
    }

    private void tellLand() {
        int days = odds(70) ? 3 + n(4) : 3 + n(14);
        country(Check.bytes("days " + days));
        country(some(1 + n(6), 0));
        country(some(n(9), 1, 2));
        country(some(n(9), 5, 6, 7));
        country(some(n(15), 3, 8, 9, 9, 10, 11));
        country(some(n(15), 3, 8, 9, 9, 10, 11, 12));
    }

    /** LINES of these kinds; the TAPE's 400 bytes may make them fewer. */
    private byte[] some(int many, int... kinds) {
        StringBuilder text = new StringBuilder();
        for (int i = 0; i < many; i++) {
            String line = countryLine(kinds[n(kinds.length)]);
            if (text.length() + line.length() < 400) {
                text.append(i == 0 ? "" : ";").append(line);
            }
        }
        return Check.bytes(text.toString());
    }

    private void country(byte[] text) {
        feed(text);
        same("country " + new String(text, java.nio.charset.StandardCharsets.ISO_8859_1), () -> x.country(), () -> m.country());
        same("fault", () -> x.fault(), () -> m.fault());
    }

    private void law(byte[] text) {
        feed(text);
        same("law " + new String(text, java.nio.charset.StandardCharsets.ISO_8859_1), () -> x.law(), () -> m.law());
        same("fault", () -> x.fault(), () -> m.fault());
    }

    // ---- calls

    private void call() {
        int kind = n(100);
        if (kind < 3) {
            country(text(true, 1 + n(6)));
        } else if (kind < 9) {
            law(text(false, n(5)));
        } else if (kind < 22) {
            act();
        } else if (kind < 30) {
            int days = odds(50) ? 1 : odds(80) ? 1 + n(12) : n(203) - 1;
            same("dawns " + days, () -> x.dawns(days), () -> m.dawns(days));
        } else if (kind < 36) {
            stateCall();
        } else if (kind < 55) {
            rowCall();
        } else if (kind < 85) {
            wayCall();
        } else {
            tableCall();
        }
    }

    private void act() {
        int t = one(5);
        int p = odds(30) ? worker(t) : one(1);
        int o = one(1);
        int r = one(3);
        int f = one(2);
        int c = odds(90) ? 1 + n(10) : n(10002);
        switch (n(4)) {
            case 0: same("go " + p + " " + r, () -> x.go(p, r), () -> m.go(p, r)); break;
            case 1: same("give " + p + " " + o + " " + c, () -> x.give(p, o, c), () -> m.give(p, o, c)); break;
            case 2: same("work " + p + " " + t, () -> x.work(p, t), () -> m.work(p, t)); break;
            default: same("tell " + p + " " + f, () -> x.tell(p, f), () -> m.tell(p, f));
        }
    }

    /** One who is where the task is to be done; it seldom is done without. */
    private int worker(int task) {
        for (int p = 0; p < m.count(1) && task >= 0 && task < m.count(5); p++) {
            if (m.person(p, 0) == m.task(task, 0)) {
                return p;
            }
        }
        return one(1);
    }

    private void stateCall() {
        int seed = random.nextInt();
        switch (n(5)) {
            case 0: case 1: same("undo", () -> x.undo(), () -> m.undo()); break;
            case 2: x.image(); m.image(); used++; calls.append("image\n"); break;
            case 3: if (odds(30)) { same("back", () -> x.back(), () -> m.back()); } break;
            default: same("seed " + seed, () -> x.seed(seed), () -> m.seed(seed));
        }
    }

    private void rowCall() {
        int w = n(9) - 1;
        int k = n(22) - 1;
        int p = one(1);
        int r = one(3);
        int d = one(4);
        int t = one(5);
        int f = one(2);
        int v = one(0);
        int ago = n(20) - 1;
        boolean b = n(2) == 0;
        switch (n(9)) {
            case 0: same("person " + p + " " + w, () -> x.person(p, w), () -> m.person(p, w)); break;
            case 1: same("road " + r + " " + w, () -> x.road(r, w), () -> m.road(r, w)); break;
            case 2: same("debt " + d + " " + w, () -> x.debt(d, w), () -> m.debt(d, w)); break;
            case 3: same("task " + t + " " + w, () -> x.task(t, w), () -> m.task(t, w)); break;
            case 4: same("fact " + f + " " + b, () -> x.fact(f, b), () -> m.fact(f, b)); break;
            case 5: same("rule " + p + " " + v + " " + w / 2, () -> x.rule(p, v, w / 2), () -> m.rule(p, v, w / 2)); break;
            case 6: same("log " + ago + " " + w / 2, () -> x.log(ago, w / 2), () -> m.log(ago, w / 2)); break;
            case 7: for (int i = 0; i < 20; i++) {
                int all = i;
                same("count " + all, () -> x.count(all), () -> m.count(all));
            } break;
            default: same("count " + k, () -> x.count(k), () -> m.count(k));
        }
    }

    private void wayCall() {
        int p = one(1);
        int o = one(1);
        int v = one(0);
        int day = odds(30) ? -1 : aDay();
        int dawns = odds(70) ? n(12) : n(204) - 1;
        int feasts = odds(70) ? 1 + n(12) : n(63) - 1;
        int tasks = odds(80) ? n(256) & n(256) : random.nextInt();
        boolean b = n(2) == 0;
        switch (n(9)) {
            case 0: same("soonest " + p + " " + v + " " + day, () -> x.soonest(p, v, day), () -> m.soonest(p, v, day)); break;
            case 1: same("first " + p + " " + v + " " + day, () -> x.first(p, v, day), () -> m.first(p, v, day)); break;
            case 2: same("meeting " + p + " " + o + " " + b, () -> x.meeting(p, o, b), () -> m.meeting(p, o, b)); break;
            case 3: same("cone " + p + " " + dawns, () -> x.cone(p, dawns), () -> m.cone(p, dawns)); break;
            case 4: same("warned " + p + " " + dawns, () -> x.warned(p, dawns), () -> m.warned(p, dawns)); break;
            case 5: same("least " + dawns, () -> x.least(dawns), () -> m.least(dawns)); break;
            case 6: same("feasted " + p + " " + feasts, () -> x.feasted(p, feasts), () -> m.feasted(p, feasts)); break;
            case 7: same("plan " + p + " " + tasks, () -> x.plan(p, tasks, false), () -> m.plan(p, tasks, false)); break;
            default: same("plan " + p + " " + tasks + " first", () -> x.plan(p, tasks, true), () -> m.plan(p, tasks, true));
        }
    }

    private byte[] clues() {
        byte[] clues = new byte[3 * n(odds(80) ? 4 : 9)];
        for (int i = 0; i < clues.length; i++) {
            clues[i] = (byte) (odds(1) ? n(256) : n(m.count(9)));
        }
        return odds(3) ? java.util.Arrays.copyOf(clues, n(9)) : clues;
    }

    private void tableCall() {
        int v = one(0);
        int o = one(0);
        int d = one(4);
        int p = odds(30) ? -1 : one(1);
        int day = aDay();
        int w = n(8) + 1;
        int time = odds(90) ? n(300) : n(2) == 0 ? -1 : 999990 + n(20);
        boolean b = n(2) == 0;
        switch (n(11)) {
            case 0: same("day " + v + " " + time, () -> x.day(v, time), () -> m.day(v, time)); break;
            case 1: same("page " + v + " " + day, () -> x.page(v, day), () -> m.page(v, day)); break;
            case 2: same("when " + v + " " + day + " " + time, () -> x.when(v, day, time), () -> m.when(v, day, time)); break;
            case 3: same("knew " + p + " " + time, () -> x.knew(p, time), () -> m.knew(p, time)); break;
            case 4: same("alike " + v + " " + o + " " + b, () -> x.alike(v, o, b), () -> m.alike(v, o, b)); break;
            case 5: same("touch " + v + " " + w + " " + b, () -> x.touch(v, w, b), () -> m.touch(v, w, b)); break;
            case 6: same("round " + v + " " + w, () -> x.round(v, w), () -> m.round(v, w)); break;
            case 7: same("early " + d, () -> x.early(d), () -> m.early(d)); break;
            case 8: same("netted " + p, () -> x.netted(p), () -> m.netted(p)); break;
            case 9: feed(clues()); same("bread", () -> x.bread(), () -> m.bread()); break;
            default: {
                boolean slow = m.count(9) > 7 && m.count(9) < 10 && odds(90);
                if (!slow) {
                    feed(clues());
                    same("tables", () -> x.tables(), () -> m.tables());
                }
            }
        }
    }
}
