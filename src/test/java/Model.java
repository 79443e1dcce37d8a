import java.util.ArrayDeque;
import java.util.ArrayList;
import java.util.Arrays;
import java.util.List;
import java.util.NoSuchElementException;

/** The same document once more, slow and plain: states are walked one by one, orders are all tried. */
final class Model {
    private static final int NONE = -1;

    private static final class Person {
        int where;
        int whither = NONE;
        int arrival = NONE;
        int coins;
        int lived;
        int knows;

        Person copy() {
            Person p = new Person();
            p.where = where;
            p.whither = whither;
            p.arrival = arrival;
            p.coins = coins;
            p.lived = lived;
            p.knows = knows;
            return p;
        }
    }

    private interface Condition {
        boolean holds(int person, int village, int time, State s);
    }

    private interface Sum {
        int of(int person, int village, int time, State s);
    }

    private record LawLine(String kind, int n, Condition condition) {
    }

    private static final class State {
        int days = 7;
        int feasts;
        int chance;
        int texts;
        int told;
        int earned;
        int lost;
        int time;
        int seed = 1;
        List<int[]> villages = new ArrayList<>();
        List<Person> people = new ArrayList<>();
        List<int[]> facts = new ArrayList<>();
        List<int[]> roads = new ArrayList<>();
        List<int[]> debts = new ArrayList<>();
        List<int[]> tasks = new ArrayList<>();
        List<int[]> log = new ArrayList<>();
        List<LawLine> law;

        State copy() {
            State s = new State();
            s.days = days;
            s.feasts = feasts;
            s.chance = chance;
            s.texts = texts;
            s.told = told;
            s.earned = earned;
            s.lost = lost;
            s.time = time;
            s.seed = seed;
            s.villages = deep(villages);
            for (Person p : people) {
                s.people.add(p.copy());
            }
            s.facts = deep(facts);
            s.roads = deep(roads);
            s.debts = deep(debts);
            s.tasks = deep(tasks);
            s.log = deep(log);
            s.law = law;
            return s;
        }

        private static List<int[]> deep(List<int[]> rows) {
            List<int[]> copy = new ArrayList<>();
            for (int[] row : rows) {
                copy.add(row.clone());
            }
            return copy;
        }

        int day(int village, int at) {
            return villages.get(village)[at % days];
        }

        boolean some(String kind, int person, int village, int at) {
            if (law != null) {
                for (LawLine line : law) {
                    if (line.kind.equals(kind) && line.condition.holds(person, village, at, this)) {
                        return true;
                    }
                }
            }
            return false;
        }

        int earns(int person, int village, int at) {
            int sum = 0;
            if (law != null) {
                for (LawLine line : law) {
                    if (line.kind.equals("earn") && line.condition.holds(person, village, at, this)) {
                        sum += line.n;
                    }
                }
            }
            return sum;
        }
    }

    private State s = new State();
    private State image;
    private final ArrayDeque<State> past = new ArrayDeque<>();
    private byte[] tape = new byte[0];
    private int fault = NONE;

    // ---- texts: all things first, with their places; then what may stand where

    private static final class Wrong extends RuntimeException {
        private static final long serialVersionUID = 1;
        final int at;

        Wrong(int at) {
            this.at = at;
        }
    }

    private List<String> things;
    private List<Integer> places;
    private int at;

    private void split(byte[] text) {
        things = new ArrayList<>();
        places = new ArrayList<>();
        String all = new String(text, java.nio.charset.StandardCharsets.ISO_8859_1);
        java.util.regex.Matcher m = java.util.regex.Pattern.compile("[a-z]+|[0-9]+|[^ ]", java.util.regex.Pattern.DOTALL).matcher(all);
        while (m.find()) {
            things.add(m.group());
            places.add(m.start());
        }
        things.add("");
        places.add(text.length);
        at = 0;
    }

    private String thing() {
        return things.get(at);
    }

    private void wrong() {
        throw new Wrong(places.get(at));
    }

    private void word(String w) {
        if (!thing().equals(w)) {
            wrong();
        }
        at++;
    }

    private int number(int digits, int low, int high, int... not) {
        String t = thing();
        if (!t.matches("[0-9]+") || t.length() > digits) {
            wrong();
        }
        int n = Integer.parseInt(t);
        if (n < low || n > high) {
            wrong();
        }
        for (int other : not) {
            if (other == n) {
                wrong();
            }
        }
        at++;
        return n;
    }

    private byte[] used() {
        byte[] text = tape;
        tape = new byte[0];
        return text;
    }

    int country() {
        State before = s;
        s = s.copy();
        split(used());
        fault = NONE;
        try {
            if (!thing().isEmpty()) {
                countryLine();
                int lines = 1;
                while (!thing().isEmpty()) {
                    word(";");
                    if (lines == 14) {
                        wrong();
                    }
                    countryLine();
                    lines++;
                }
            }
        } catch (Wrong w) {
            fault = w.at;
            s = before;
            throw new IllegalArgumentException();
        }
        if (before.texts == 12) {
            s = before;
            throw new UnsupportedOperationException();
        }
        s.texts++;
        past.clear();
        return s.texts;
    }

    private int village() {
        return number(4, 0, s.villages.size() - 1);
    }

    private int aDay(int... not) {
        return number(4, 0, s.days - 1, not);
    }

    private void most(List<?> rows, int most) {
        if (rows.size() == most) {
            wrong();
        }
        at++;
    }

    private void countryLine() {
        switch (thing()) {
            case "days" -> {
                if (!s.villages.isEmpty()) {
                    wrong();
                }
                at++;
                s.days = number(4, 3, 16);
                s.feasts &= (1 << s.days) - 1;
            }
            case "village" -> {
                most(s.villages, 6);
                int[] table = new int[0];
                while (table.length < s.days) {
                    int day = aDay(table);
                    table = Arrays.copyOf(table, table.length + 1);
                    table[table.length - 1] = day;
                }
                s.villages.add(table);
            }
            case "person" -> {
                most(s.people, 8);
                Person p = new Person();
                p.where = village();
                p.coins = number(4, 0, 9999);
                s.told += p.coins;
                s.people.add(p);
            }
            case "fact" -> {
                most(s.facts, 8);
                s.facts.add(new int[] {village(), aDay()});
            }
            case "road" -> {
                most(s.roads, 12);
                int one = village();
                s.roads.add(new int[] {one, number(4, 0, s.villages.size() - 1, one), number(4, 1, 5)});
            }
            case "feast" -> {
                at++;
                s.feasts |= 1 << aDay();
            }
            case "debt" -> debtLine();
            case "task" -> {
                most(s.tasks, 8);
                int[] row = {village(), aDay(), NONE, NONE, NONE};
                if (thing().equals("after")) {
                    at++;
                    row[2] = number(4, 0, s.tasks.size() - 1);
                }
                s.tasks.add(row);
            }
            case "chance" -> {
                at++;
                s.chance = number(4, 0, 100);
            }
            case "misprint" -> {
                at++;
                int[] table = s.villages.isEmpty() ? null : s.villages.get(village());
                if (table == null) {
                    wrong();
                }
                int one = aDay();
                int other = aDay();
                for (int i = 0; i < table.length; i++) {
                    table[i] = table[i] == one ? other : table[i] == other ? one : table[i];
                }
            }
            default -> wrong();
        }
    }

    private void debtLine() {
        most(s.debts, 8);
        int debtor = number(4, 0, s.people.size() - 1);
        int creditor = number(4, 0, s.people.size() - 1, debtor);
        int n = number(4, 1, 999);
        word("in");
        int v = village();
        word("made");
        int made = aDay();
        word("due");
        s.debts.add(new int[] {debtor, creditor, n, v, made, aDay(made), 0});
    }

    int law() {
        split(used());
        fault = NONE;
        List<LawLine> law = new ArrayList<>();
        try {
            if (!thing().isEmpty()) {
                law.add(lawLine());
                while (!thing().isEmpty()) {
                    word(";");
                    if (law.size() == 12) {
                        wrong();
                    }
                    law.add(lawLine());
                }
            }
        } catch (Wrong w) {
            fault = w.at;
            throw new IllegalArgumentException();
        }
        s = s.copy();
        s.law = law;
        past.clear();
        return law.size();
    }

    private LawLine lawLine() {
        String kind = thing();
        if (!kind.equals("bar") && !kind.equals("hush") && !kind.equals("earn")) {
            wrong();
        }
        at++;
        int n = kind.equals("earn") ? number(3, 0, 99) : 0;
        Condition c = (p, v, t, x) -> true;
        if (thing().equals("if")) {
            at++;
            c = any(0);
        }
        return new LawLine(kind, n, c);
    }

    private Condition any(int deep) {
        List<Condition> parts = new ArrayList<>();
        parts.add(every(deep));
        while (thing().equals("or")) {
            at++;
            parts.add(every(deep));
        }
        return (p, v, t, x) -> parts.stream().anyMatch(c -> c.holds(p, v, t, x));
    }

    private Condition every(int deep) {
        List<Condition> parts = new ArrayList<>();
        parts.add(atom(deep));
        while (thing().equals("and")) {
            at++;
            parts.add(atom(deep));
        }
        return (p, v, t, x) -> parts.stream().allMatch(c -> c.holds(p, v, t, x));
    }

    private Condition atom(int deep) {
        switch (thing()) {
            case "not": {
                if (deep == 6) {
                    wrong();
                }
                at++;
                Condition c = atom(deep + 1);
                return (p, v, t, x) -> !c.holds(p, v, t, x);
            }
            case "(": {
                if (deep == 6) {
                    wrong();
                }
                at++;
                Condition c = any(deep + 1);
                word(")");
                return c;
            }
            case "again":
                at++;
                return (p, v, t, x) -> (x.people.get(p).lived & 1 << x.day(v, t)) != 0;
            case "feast":
                at++;
                return (p, v, t, x) -> (x.feasts & 1 << x.day(v, t)) != 0;
            default: {
                Sum one = sum();
                String sign = thing();
                if (!sign.equals("<") && !sign.equals(">")) {
                    wrong();
                }
                at++;
                Sum other = sum();
                return (p, v, t, x) -> {
                    int a = one.of(p, v, t, x);
                    int b = other.of(p, v, t, x);
                    return sign.equals("<") ? a < b : a > b;
                };
            }
        }
    }

    private Sum sum() {
        List<Sum> parts = new ArrayList<>();
        parts.add(part());
        while (thing().equals("+")) {
            at++;
            parts.add(part());
        }
        return (p, v, t, x) -> parts.stream().mapToInt(c -> c.of(p, v, t, x)).sum();
    }

    private Sum part() {
        if (thing().matches("[0-9]+")) {
            int n = number(3, 0, 999);
            return (p, v, t, x) -> n;
        }
        Sum sum = switch (thing()) {
            case "person" -> (p, v, t, x) -> p;
            case "village" -> (p, v, t, x) -> v;
            case "day" -> (p, v, t, x) -> x.day(v, t);
            case "page" -> (p, v, t, x) -> t % x.days;
            case "printing" -> (p, v, t, x) -> t / x.days;
            case "known" -> (p, v, t, x) -> Integer.bitCount(x.people.get(p).knows);
            case "lived" -> (p, v, t, x) -> Integer.bitCount(x.people.get(p).lived);
            case "coins" -> (p, v, t, x) -> x.people.get(p).coins;
            default -> null;
        };
        if (sum == null) {
            wrong();
        }
        at++;
        return sum;
    }

    // ---- the tape

    int feed(int a, int b, int c, int d, int e) {
        if (tape.length > 380) {
            return NONE;
        }
        java.nio.ByteBuffer more = java.nio.ByteBuffer.allocate(tape.length + 20);
        more.put(tape).putInt(a).putInt(b).putInt(c).putInt(d).putInt(e);
        tape = more.array();
        return tape.length;
    }

    boolean end(int n) {
        if (n < 0 || n > tape.length) {
            return false;
        }
        tape = Arrays.copyOf(tape, n);
        return true;
    }

    int fault() {
        return fault;
    }

    // ---- what is asked

    private static void in(int n, List<?> rows) {
        if (n < 0 || n >= rows.size()) {
            throw new IndexOutOfBoundsException();
        }
    }

    private void inDays(int day) {
        if (day < 0 || day >= s.days) {
            throw new IndexOutOfBoundsException();
        }
    }

    private static void within(int n, int low, int high) {
        if (n < low || n > high) {
            throw new IllegalArgumentException();
        }
    }

    private static int column(int[] row, int what, int most) {
        if (what < 0 || what >= most) {
            throw new NoSuchElementException();
        }
        return row[what];
    }

    int day(int village, int time) {
        in(village, s.villages);
        within(time, 0, 1000000);
        return s.day(village, time);
    }

    int page(int village, int day) {
        in(village, s.villages);
        inDays(day);
        int page = 0;
        while (s.villages.get(village)[page] != day) {
            page++;
        }
        return page;
    }

    int when(int village, int day, int time) {
        in(village, s.villages);
        inDays(day);
        within(time, 0, 1000000);
        int t = time;
        while (s.day(village, t) != day) {
            t++;
        }
        return t;
    }

    int person(int person, int what) {
        in(person, s.people);
        Person p = s.people.get(person);
        int others = 0;
        for (int o = 0; o < s.people.size(); o++) {
            others |= o != person && p.where != NONE && s.people.get(o).where == p.where ? 1 << o : 0;
        }
        return column(new int[] {p.where, p.whither, p.arrival, p.coins, p.lived, p.knows, others}, what, 7);
    }

    int road(int road, int what) {
        in(road, s.roads);
        return column(s.roads.get(road), what, 3);
    }

    int debt(int debt, int what) {
        in(debt, s.debts);
        return column(s.debts.get(debt), what, 7);
    }

    int task(int task, int what) {
        in(task, s.tasks);
        return column(s.tasks.get(task), what, 5);
    }

    int fact(int fact, boolean day) {
        in(fact, s.facts);
        return s.facts.get(fact)[day ? 1 : 0];
    }

    int rule(int person, int village, int what) {
        in(person, s.people);
        in(village, s.villages);
        return column(new int[] {s.some("bar", person, village, s.time) ? 1 : 0,
            s.some("hush", person, village, s.time) ? 1 : 0, s.earns(person, village, s.time)}, what, 3);
    }

    // ---- acts

    private void act() {
        past.addLast(s.copy());
        if (past.size() > 12) {
            past.removeFirst();
        }
    }

    int go(int person, int road) {
        in(person, s.people);
        in(road, s.roads);
        Person p = s.people.get(person);
        int[] r = s.roads.get(road);
        boolean there = p.where != NONE && (p.where == r[0] || p.where == r[1]);
        if (!there || s.some("bar", person, p.where, s.time)) {
            throw new IllegalStateException();
        }
        act();
        p.whither = p.where == r[0] ? r[1] : r[0];
        p.where = NONE;
        p.arrival = s.time + r[2];
        return p.arrival;
    }

    int give(int person, int other, int coins) {
        in(person, s.people);
        in(other, s.people);
        within(coins, 1, 9999);
        within(person == other ? 0 : 1, 1, 1);
        Person p = s.people.get(person);
        Person o = s.people.get(other);
        if (p.where == NONE || p.where != o.where || p.coins < coins || o.coins + coins > 9999) {
            throw new IllegalStateException();
        }
        act();
        p.coins -= coins;
        o.coins += coins;
        return o.coins;
    }

    private int done() {
        int done = 0;
        for (int[] t : s.tasks) {
            done += t[3] != NONE ? 1 : 0;
        }
        return done;
    }

    int work(int person, int task) {
        in(person, s.people);
        in(task, s.tasks);
        int[] t = s.tasks.get(task);
        int where = s.people.get(person).where;
        if (where != t[0] || t[3] != NONE || s.day(where, s.time) != t[1]
            || t[2] != NONE && s.tasks.get(t[2])[3] == NONE) {
            throw new IllegalStateException();
        }
        act();
        t[3] = person;
        t[4] = s.time;
        return done();
    }

    private boolean learn(int person, int fact, int by) {
        Person p = s.people.get(person);
        if ((p.knows & 1 << fact) != 0) {
            return false;
        }
        p.knows |= 1 << fact;
        s.log.add(new int[] {s.time, person, fact, by});
        if (s.log.size() > 100) {
            s.log.remove(0);
        }
        return true;
    }

    boolean tell(int person, int fact) {
        in(person, s.people);
        in(fact, s.facts);
        act();
        return learn(person, fact, 8);
    }

    private int draw() {
        s.seed = s.seed * 1103515245 + 12345;
        return (s.seed & 0x7fff0000) >> 16;
    }

    int dawns(int n) {
        within(n, 1, 200);
        act();
        int news = 0;
        for (int i = 0; i < n; i++) {
            news += dawn();
        }
        return news;
    }

    private int dawn() {
        int news = 0;
        s.time++;
        if (s.time % s.days == 0) {
            for (int[] table : s.villages) {
                if (draw() % 100 < s.chance) {
                    int one = draw() % s.days;
                    int other = draw() % s.days;
                    int day = table[one];
                    table[one] = table[other];
                    table[other] = day;
                }
            }
        }
        for (Person p : s.people) {
            if (p.arrival == s.time) {
                p.where = p.whither;
                p.whither = NONE;
                p.arrival = NONE;
            }
        }
        for (int p = 0; p < s.people.size(); p++) {
            Person x = s.people.get(p);
            if (x.where != NONE) {
                int more = s.earns(p, x.where, s.time);
                int have = Math.min(9999, x.coins + more);
                s.lost += x.coins + more - have;
                s.earned += have - x.coins;
                x.coins = have;
                x.lived |= 1 << s.day(x.where, s.time);
                for (int f = 0; f < s.facts.size(); f++) {
                    if (s.facts.get(f)[0] == x.where && s.facts.get(f)[1] == s.day(x.where, s.time)) {
                        news += learn(p, f, 9) ? 1 : 0;
                    }
                }
            }
        }
        State c = s.copy();
        for (int p = 0; p < s.people.size(); p++) {
            for (int f = 0; f < s.facts.size(); f++) {
                for (int o = 0; o < s.people.size(); o++) {
                    Person x = c.people.get(o);
                    boolean one = x.where != NONE && x.where == c.people.get(p).where;
                    if (one && (x.knows & 1 << f) != 0 && !c.some("hush", o, x.where, c.time)) {
                        news += learn(p, f, o) ? 1 : 0;
                    }
                }
            }
        }
        for (int[] d : s.debts) {
            int day = s.day(d[3], s.time);
            if (day == d[4] || day == d[5]) {
                Person from = s.people.get(day == d[4] ? d[1] : d[0]);
                Person to = s.people.get(day == d[4] ? d[0] : d[1]);
                int moved = 0;
                while (moved < d[2] && from.coins > 0 && to.coins < 9999) {
                    from.coins--;
                    to.coins++;
                    moved++;
                }
                d[6] += d[2] - moved;
            }
        }
        return news;
    }

    // ---- from now on: can[t][v]: one can be in v at NOW and t

    private boolean[][] can(int person, int village, int later, int n) {
        boolean[][] can = new boolean[n + 6][6];
        if (later <= n) {
            can[later][village] = true;
        }
        for (int t = 0; t < n; t++) {
            for (int v = 0; v < s.villages.size(); v++) {
                if (can[t][v]) {
                    can[t + 1][v] = true;
                    for (int[] r : s.roads) {
                        if ((r[0] == v || r[1] == v) && !s.some("bar", person, v, s.time + t)) {
                            can[t + r[2]][r[0] + r[1] - v] = true;
                        }
                    }
                }
            }
        }
        return Arrays.copyOf(can, n + 1);
    }

    private int place(int person) {
        Person p = s.people.get(person);
        return p.where == NONE ? p.whither : p.where;
    }

    private int later(int person) {
        Person p = s.people.get(person);
        return p.where == NONE ? p.arrival - s.time : 0;
    }

    private boolean[][] can(int person, int n) {
        return can(person, place(person), later(person), n);
    }

    private void goal(int person, int village, int day) {
        in(person, s.people);
        in(village, s.villages);
        if (day != NONE) {
            inDays(day);
        }
    }

    int soonest(int person, int village, int day) {
        goal(person, village, day);
        boolean[][] can = can(person, 200);
        for (int t = 0; t <= 200; t++) {
            if (can[t][village] && (day == NONE || s.day(village, s.time + t) == day)) {
                return s.time + t;
            }
        }
        return NONE;
    }

    int first(int person, int village, int day) {
        int goal = soonest(person, village, day) - s.time;
        int home = s.people.get(person).where;
        if (goal < 0 || home == NONE || home == village) {
            return NONE;
        }
        for (int wait = goal; wait >= 0; wait--) {
            if (s.some("bar", person, home, s.time + wait)) {
                continue;
            }
            for (int r = 0; r < s.roads.size(); r++) {
                int[] road = s.roads.get(r);
                if (road[0] != home && road[1] != home) {
                    continue;
                }
                int there = wait + road[2];
                if (there <= goal && can(person, road[0] + road[1] - home, there, goal)[goal][village]) {
                    return r;
                }
            }
        }
        throw new AssertionError("a way must start somehow");
    }

    int meeting(int one, int other, boolean where) {
        in(one, s.people);
        in(other, s.people);
        within(one == other ? 0 : 1, 1, 1);
        boolean[][] a = can(one, 200);
        boolean[][] b = can(other, 200);
        for (int t = 0; t <= 200; t++) {
            for (int v = 0; v < s.villages.size(); v++) {
                if (a[t][v] && b[t][v]) {
                    return where ? v : s.time + t;
                }
            }
        }
        return NONE;
    }

    int cone(int person, int n) {
        in(person, s.people);
        within(n, 0, 200);
        int bits = 0;
        for (int v = 0; v < 6; v++) {
            bits |= can(person, n)[n][v] ? 1 << v : 0;
        }
        return bits;
    }

    int warned(int person, int n) {
        in(person, s.people);
        within(n, 0, 200);
        boolean[][][] can = new boolean[8][][];
        can[person] = can(person, n);
        int told = 1 << person;
        for (int t = 0; t <= n; t++) {
            for (boolean more = true; more;) {
                more = false;
                for (int q = 0; q < s.people.size(); q++) {
                    for (int r = 0; r < s.people.size(); r++) {
                        boolean tells = can[q] == null && can[r] != null && t >= later(q);
                        if (tells && can[r][t][place(q)]) {
                            can[q] = can(q, place(q), t, n);
                            told |= 1 << q;
                            more = true;
                        }
                    }
                }
            }
        }
        return told;
    }

    int least(int n) {
        within(n, 0, 200);
        int people = s.people.size();
        int[] warned = new int[people];
        for (int p = 0; p < people; p++) {
            warned[p] = warned(p, n);
        }
        for (int size = 0; size <= people; size++) {
            for (int set = 0; set < 1 << people; set++) {
                int all = 0;
                for (int p = 0; p < people; p++) {
                    all |= (set & 1 << p) != 0 ? warned[p] : 0;
                }
                if (Integer.bitCount(set) == size && all == (1 << people) - 1) {
                    return set;
                }
            }
        }
        throw new AssertionError("all who are told are warned");
    }

    int knew(int person, int time) {
        in(person, s.people);
        within(time, 0, Integer.MAX_VALUE);
        int known = s.people.get(person).knows;
        for (int[] row : s.log) {
            known &= row[1] == person && row[0] > time ? ~(1 << row[2]) : -1;
        }
        return known;
    }

    int alike(int village, int other, boolean shift) {
        in(village, s.villages);
        in(other, s.villages);
        int[] same = new int[s.days];
        int best = 0;
        for (int k = 0; k < s.days; k++) {
            for (int page = 0; page < s.days; page++) {
                same[k] += s.day(village, page) == s.day(other, page + k) ? 1 : 0;
            }
            best = same[k] > same[best] ? k : best;
        }
        return shift ? best : same[0];
    }

    int touch(int village, int w, boolean first) {
        in(village, s.villages);
        within(w, 2, 7);
        List<Integer> pages = new ArrayList<>();
        for (int page = 0; page < s.days; page++) {
            if ((s.day(village, page) - s.day(village, page + 1)) % w == 0) {
                pages.add(page);
            }
        }
        return !first ? pages.size() : pages.isEmpty() ? NONE : pages.get(0);
    }

    int round(int village, int w) {
        in(village, s.villages);
        within(w, 2, 7);
        StringBuilder told = new StringBuilder();
        for (int page = 0; page < s.days; page++) {
            told.append((char) ('a' + s.day(village, page) % w));
        }
        return (told.toString() + told).indexOf(told.toString(), 1);
    }

    private byte[] clues() {
        byte[] clues = used();
        if (clues.length % 3 != 0) {
            throw new IllegalArgumentException();
        }
        for (byte b : clues) {
            within(b, 0, s.days - 1);
        }
        return clues;
    }

    private boolean fits(int[] table, byte[] clues) {
        int[] page = new int[table.length];
        for (int i = 0; i < table.length; i++) {
            page[table[i]] = i;
        }
        for (int i = 0; i < clues.length; i += 3) {
            if ((page[clues[i]] - page[clues[i + 1]] + table.length) % table.length != clues[i + 2]) {
                return false;
            }
        }
        return true;
    }

    int bread() {
        byte[] clues = clues();
        int bits = 0;
        for (int v = 0; v < s.villages.size(); v++) {
            bits |= fits(s.villages.get(v), clues) ? 1 << v : 0;
        }
        return bits;
    }

    int tables() {
        byte[] clues = clues();
        if (s.days > 9) {
            return -3;
        }
        return orders(new int[s.days], 1, clues);
    }

    private int orders(int[] table, int page, byte[] clues) {
        if (page == table.length) {
            return fits(table, clues) ? 1 : 0;
        }
        int many = 0;
        for (int day = 1; day < table.length; day++) {
            boolean free = true;
            for (int i = 1; i < page; i++) {
                free &= table[i] != day;
            }
            if (free) {
                table[page] = day;
                many += orders(table, page + 1, clues);
            }
        }
        return many;
    }

    int early(int debt) {
        in(debt, s.debts);
        int[] d = s.debts.get(debt);
        return page(d[3], d[4]) - page(d[3], d[5]);
    }

    int netted(int person) {
        int[] get = new int[8];
        for (int[] d : s.debts) {
            get[d[0]] -= d[2];
            get[d[1]] += d[2];
        }
        if (person == NONE) {
            return payments(get, 0);
        }
        in(person, s.people);
        return get[person];
    }

    /** The first who is uneven pays, or is paid, all at once by one of those who need the other way. */
    private int payments(int[] get, int from) {
        int first = from;
        while (first < get.length && get[first] == 0) {
            first++;
        }
        if (first == get.length) {
            return 0;
        }
        int best = 99;
        for (int other = first + 1; other < get.length; other++) {
            if ((long) get[first] * get[other] < 0) {
                get[other] += get[first];
                best = Math.min(best, 1 + payments(get, first + 1));
                get[other] -= get[first];
            }
        }
        return best;
    }

    int feasted(int person, int n) {
        in(person, s.people);
        within(n, 1, 60);
        return feasts(person, place(person), later(person), n, new int[n + 6][6]);
    }

    private int feasts(int person, int village, int t, int n, int[][] known) {
        if (t > n) {
            return 0;
        }
        if (known[t][village] == 0) {
            int here = t > 0 && (s.feasts & 1 << s.day(village, s.time + t)) != 0 ? 1 : 0;
            int best = feasts(person, village, t + 1, n, known);
            if (!s.some("bar", person, village, s.time + t)) {
                for (int[] r : s.roads) {
                    if (r[0] == village || r[1] == village) {
                        best = Math.max(best, feasts(person, r[0] + r[1] - village, t + r[2], n, known));
                    }
                }
            }
            known[t][village] = 1 + here + best;
        }
        return known[t][village] - 1;
    }

    int plan(int person, int tasks, boolean first) {
        in(person, s.people);
        List<Integer> set = new ArrayList<>();
        for (int t = 0; t < s.tasks.size(); t++) {
            if ((tasks & 1 << t) != 0 && s.tasks.get(t)[3] == NONE) {
                set.add(t);
            }
        }
        if (set.size() > 5) {
            return -3;
        }
        if (set.isEmpty()) {
            return first ? NONE : s.time;
        }
        int[] best = {Integer.MAX_VALUE, NONE};
        order(person, set, new ArrayList<>(), best);
        return best[0] == Integer.MAX_VALUE ? NONE : first ? best[1] : s.time + best[0];
    }

    private void order(int person, List<Integer> set, List<Integer> order, int[] best) {
        if (order.size() == set.size()) {
            int t = lastOf(person, order);
            if (t < best[0]) {
                best[0] = t;
                best[1] = order.get(0);
            }
            return;
        }
        for (int task : set) {
            int after = s.tasks.get(task)[2];
            boolean ready = after == NONE || s.tasks.get(after)[3] != NONE || order.contains(after);
            if (!order.contains(task) && ready) {
                order.add(task);
                order(person, set, order, best);
                order.remove(order.size() - 1);
            }
        }
    }

    /** All places at all times with so many of the order done: in[k][t][v]. */
    private int lastOf(int person, List<Integer> order) {
        boolean[][][] in = new boolean[order.size() + 1][406][6];
        in[0][later(person)][place(person)] = true;
        for (int t = 0; t <= 400; t++) {
            boolean[][] now = new boolean[order.size() + 1][6];
            for (int k = 0; k <= order.size(); k++) {
                now[k] = in[k][t].clone();
            }
            for (int k = 0; k < order.size(); k++) {
                int[] task = s.tasks.get(order.get(k));
                if (in[k][t][task[0]] && s.day(task[0], s.time + t) == task[1]) {
                    if (k + 1 == order.size()) {
                        return t;
                    }
                    now[k + 1][task[0]] = true;
                }
            }
            for (int v = 0; v < s.villages.size(); v++) {
                boolean barred = s.some("bar", person, v, s.time + t);
                for (int k = 0; k < order.size(); k++) {
                    if (now[k][v]) {
                        in[k][t + 1][v] = true;
                        for (int[] r : s.roads) {
                            if (!barred && (r[0] == v || r[1] == v)) {
                                in[k][t + r[2]][r[0] + r[1] - v] = true;
                            }
                        }
                    }
                }
            }
        }
        return Integer.MAX_VALUE;
    }

    int log(int ago, int what) {
        if (what < 0 || what > 3) {
            throw new NoSuchElementException();
        }
        int row = s.log.size() - 1 - ago;
        return ago < 0 || row < 0 ? NONE : s.log.get(row)[what];
    }

    int seed(int n) {
        int was = s.seed;
        s.seed = n;
        return was;
    }

    boolean undo() {
        if (past.isEmpty()) {
            return false;
        }
        s = past.removeLast();
        return true;
    }

    void image() {
        image = s.copy();
    }

    boolean back() {
        if (image == null) {
            return false;
        }
        s = image.copy();
        past.clear();
        return true;
    }

    int count(int what) {
        int coins = 0;
        int missed = 0;
        for (Person p : s.people) {
            coins += p.coins;
        }
        for (int[] d : s.debts) {
            missed += d[6];
        }
        int[] all = {s.villages.size(), s.people.size(), s.facts.size(), s.roads.size(), s.debts.size(), s.tasks.size(),
            s.texts, s.law == null ? NONE : s.law.size(), s.time, s.days, s.feasts, coins, s.told, s.earned, s.lost,
            missed, done(), s.log.size(), s.chance, past.size()};
        return what < 0 || what >= all.length ? NONE : all[what];
    }
}
