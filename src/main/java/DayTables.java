import java.util.Arrays;
import java.util.NoSuchElementException;

/** A country where days come out of order, by tables that differ from village to village. */
public final class DayTables {
    public static final int NONE = -1;

    private static final int TOO_MANY = -3;
    private static final int MOST_COINS = 9999;
    private static final int MOST_TEXTS = 12;
    private static final int MOST_TIME = 1000000;
    private static final int MOST_ACTS = 12;
    private static final int BY_HAND = 8;

    private final Tape tape = new Tape();
    private final World world = new World();
    private final World spare = new World();
    private final World kept = new World();
    private final Life[] acts = new Life[MOST_ACTS];
    private final CountryReader countryReader = new CountryReader(tape, spare);
    private final LawReader lawReader = new LawReader(tape, spare.law);
    private final Dawns passing = new Dawns(world);
    private final Ways ways = new Ways(world);
    private final Clues clues = new Clues();
    private final Netting netting = new Netting();
    private int remembered;
    private boolean isKept;

    public DayTables() {
        for (int i = 0; i < acts.length; i++) {
            acts[i] = new Life();
        }
    }

    public int feed(int a, int b, int c, int d, int e) {
        return tape.add(a, b, c, d, e);
    }

    public boolean end(int n) {
        return tape.cut(n);
    }

    public int country() throws IllegalArgumentException, UnsupportedOperationException {
        spare.copyFrom(world);
        countryReader.read();
        if (world.land.texts >= MOST_TEXTS) {
            throw new UnsupportedOperationException("there are 12 texts");
        }
        spare.land.texts++;
        world.copyFrom(spare);
        remembered = 0;
        return world.land.texts;
    }

    public int law() throws IllegalArgumentException {
        lawReader.read();
        world.law.copyFrom(spare.law);
        remembered = 0;
        return world.law.lines;
    }

    public int fault() {
        return tape.fault;
    }

    public int day(int village, int time) throws IndexOutOfBoundsException, IllegalArgumentException {
        need(Land.VILLAGES, village);
        needWithin(time, 0, MOST_TIME);
        return world.dayAt(village, time);
    }

    public int page(int village, int day) throws IndexOutOfBoundsException {
        need(Land.VILLAGES, village);
        needDay(day);
        return world.pageWith(village, day);
    }

    public int when(int village, int day, int time) throws IndexOutOfBoundsException, IllegalArgumentException {
        need(Land.VILLAGES, village);
        needDay(day);
        needWithin(time, 0, MOST_TIME);
        return world.nextTime(village, day, time);
    }

    public int person(int person, int what) throws IndexOutOfBoundsException, NoSuchElementException {
        need(Land.PEOPLE, person);
        Life life = world.life;
        switch (what) {
            case 0: return life.where[person];
            case 1: return life.whither[person];
            case 2: return life.arrival[person];
            case 3: return life.coins[person];
            case 4: return life.lived[person];
            case 5: return life.knows[person];
            case 6: return world.company(person);
            default: throw new NoSuchElementException("a person has no such thing");
        }
    }

    public int road(int road, int what) throws IndexOutOfBoundsException, NoSuchElementException {
        need(Land.ROADS, road);
        needColumn(what, 3);
        return world.land.roads[road][what];
    }

    public int debt(int debt, int what) throws IndexOutOfBoundsException, NoSuchElementException {
        need(Land.DEBTS, debt);
        needColumn(what, 7);
        return what == 6 ? world.life.missed[debt] : world.land.debts[debt][what];
    }

    public int task(int task, int what) throws IndexOutOfBoundsException, NoSuchElementException {
        need(Land.TASKS, task);
        needColumn(what, 5);
        if (what == 3) {
            return world.life.doneBy[task];
        }
        return what == 4 ? world.life.doneAt[task] : world.land.tasks[task][what];
    }

    public int fact(int fact, boolean day) throws IndexOutOfBoundsException {
        need(Land.FACTS, fact);
        return world.land.facts[fact][day ? 1 : 0];
    }

    public int rule(int person, int village, int what) throws IndexOutOfBoundsException, NoSuchElementException {
        need(Land.PEOPLE, person);
        need(Land.VILLAGES, village);
        int now = world.life.time;
        switch (what) {
            case 0: return world.isBarred(person, village, now) ? 1 : 0;
            case 1: return world.isSilent(person, village, now) ? 1 : 0;
            case 2: return world.gainOf(person, village, now);
            default: throw new NoSuchElementException("a law has no such thing");
        }
    }

    public int go(int person, int road) throws IndexOutOfBoundsException, IllegalStateException {
        need(Land.PEOPLE, person);
        need(Land.ROADS, road);
        Life life = world.life;
        int from = life.where[person];
        int to = world.land.otherEnd(road, from);
        if (to == NONE || world.isBarred(person, from, life.time)) {
            throw new IllegalStateException("one cannot set out so");
        }
        remember();
        life.where[person] = NONE;
        life.whither[person] = to;
        life.arrival[person] = life.time + world.land.roads[road][Land.LONG];
        return life.arrival[person];
    }

    public int give(int person, int other, int coins)
            throws IndexOutOfBoundsException, IllegalArgumentException, IllegalStateException {
        need(Land.PEOPLE, person);
        need(Land.PEOPLE, other);
        needWithin(coins, 1, MOST_COINS);
        needTwo(person, other);
        Life life = world.life;
        boolean together = life.where[person] != NONE && life.where[person] == life.where[other];
        if (!together || life.coins[person] < coins || life.coins[other] + coins > MOST_COINS) {
            throw new IllegalStateException("the coins cannot be given");
        }
        remember();
        life.coins[person] -= coins;
        life.coins[other] += coins;
        return life.coins[other];
    }

    public int work(int person, int task) throws IndexOutOfBoundsException, IllegalStateException {
        need(Land.PEOPLE, person);
        need(Land.TASKS, task);
        if (!world.canWork(person, task)) {
            throw new IllegalStateException("the task cannot be done");
        }
        remember();
        world.life.doneBy[task] = person;
        world.life.doneAt[task] = world.life.time;
        return world.tasksDone();
    }

    public boolean tell(int person, int fact) throws IndexOutOfBoundsException {
        need(Land.PEOPLE, person);
        need(Land.FACTS, fact);
        remember();
        return world.life.learn(person, fact, BY_HAND);
    }

    public int dawns(int n) throws IllegalArgumentException {
        needWithin(n, 1, 200);
        remember();
        return passing.pass(n);
    }

    public int soonest(int person, int village, int day) throws IndexOutOfBoundsException {
        needGoal(person, village, day);
        return ways.soonestTime(person, village, day);
    }

    public int first(int person, int village, int day) throws IndexOutOfBoundsException {
        needGoal(person, village, day);
        return ways.firstRoad(person, village, ways.soonestTime(person, village, day));
    }

    public int meeting(int one, int other, boolean where) throws IndexOutOfBoundsException, IllegalArgumentException {
        need(Land.PEOPLE, one);
        need(Land.PEOPLE, other);
        needTwo(one, other);
        return ways.meetingOf(one, other, where);
    }

    public int cone(int person, int n) throws IndexOutOfBoundsException, IllegalArgumentException {
        need(Land.PEOPLE, person);
        needWithin(n, 0, Ways.DAWNS);
        return ways.coneOf(person, n);
    }

    public int warned(int person, int n) throws IndexOutOfBoundsException, IllegalArgumentException {
        need(Land.PEOPLE, person);
        needWithin(n, 0, Ways.DAWNS);
        return ways.warnedBy(person, n);
    }

    public int least(int n) throws IllegalArgumentException {
        needWithin(n, 0, Ways.DAWNS);
        return ways.toldLeast(n);
    }

    public int knew(int person, int time) throws IndexOutOfBoundsException, IllegalArgumentException {
        need(Land.PEOPLE, person);
        if (time < 0) {
            throw new IllegalArgumentException("the time is below 0");
        }
        return world.life.knownAt(person, time);
    }

    public int alike(int village, int other, boolean shift) throws IndexOutOfBoundsException {
        need(Land.VILLAGES, village);
        need(Land.VILLAGES, other);
        return shift ? world.bestShift(village, other) : world.samePages(village, other, 0);
    }

    public int touch(int village, int w, boolean first) throws IndexOutOfBoundsException, IllegalArgumentException {
        need(Land.VILLAGES, village);
        needWithin(w, 2, 7);
        return first ? world.firstTouch(village, w) : world.touches(village, w);
    }

    public int round(int village, int w) throws IndexOutOfBoundsException, IllegalArgumentException {
        need(Land.VILLAGES, village);
        needWithin(w, 2, 7);
        return world.roundOf(village, w);
    }

    public int bread() throws IllegalArgumentException {
        readClues();
        int fitting = 0;
        for (int village = 0; village < world.land.counts[Land.VILLAGES]; village++) {
            if (clues.fit(world, village)) {
                fitting |= 1 << village;
            }
        }
        return fitting;
    }

    public int tables() throws IllegalArgumentException {
        readClues();
        return world.land.days > Clues.MOST_DAYS ? TOO_MANY : clues.orders(world.land.days);
    }

    public int early(int debt) throws IndexOutOfBoundsException {
        need(Land.DEBTS, debt);
        int[] row = world.land.debts[debt];
        int village = row[Land.PLACE];
        return world.pageWith(village, row[Land.MADE]) - world.pageWith(village, row[Land.DUE]);
    }

    public int netted(int person) throws IndexOutOfBoundsException {
        if (person == NONE) {
            return netting.fewestPayments(world.land);
        }
        need(Land.PEOPLE, person);
        return netting.balanceOf(world.land, person);
    }

    public int feasted(int person, int n) throws IndexOutOfBoundsException, IllegalArgumentException {
        need(Land.PEOPLE, person);
        needWithin(n, 1, Ways.FEAST_DAWNS);
        return ways.mostFeasts(person, n);
    }

    public int plan(int person, int tasks, boolean first) throws IndexOutOfBoundsException {
        need(Land.PEOPLE, person);
        int open = world.openTasks(tasks);
        if (Integer.bitCount(open) > Ways.PLAN_TASKS) {
            return TOO_MANY;
        }
        return ways.planOf(person, open, first);
    }

    public int log(int ago, int what) throws NoSuchElementException {
        needColumn(what, Life.LOG_COLUMNS);
        return world.life.logged(ago, what);
    }

    public int seed(int n) {
        int before = world.life.seed;
        world.life.seed = n;
        return before;
    }

    public boolean undo() {
        if (remembered == 0) {
            return false;
        }
        remembered--;
        world.life.copyFrom(acts[remembered]);
        return true;
    }

    public void image() {
        kept.copyFrom(world);
        isKept = true;
    }

    public boolean back() {
        if (!isKept) {
            return false;
        }
        world.copyFrom(kept);
        remembered = 0;
        return true;
    }

    public int count(int what) {
        if (what >= 0 && what < Land.KINDS) {
            return world.land.counts[what];
        }
        switch (what) {
            case 6: return world.land.texts;
            case 7: return world.law.lines;
            case 8: return world.life.time;
            case 9: return world.land.days;
            case 10: return world.land.feasts;
            case 11: return sum(world.life.coins, world.land.counts[Land.PEOPLE]);
            case 12: return world.land.coinsTold;
            case 13: return world.life.earned;
            case 14: return world.life.lost;
            case 15: return sum(world.life.missed, world.land.counts[Land.DEBTS]);
            case 16: return world.tasksDone();
            case 17: return world.life.rows;
            case 18: return world.land.chance;
            case 19: return remembered;
            default: return NONE;
        }
    }

    private void need(int kind, int number) {
        if (!world.land.has(kind, number)) {
            throw new IndexOutOfBoundsException("there is none of that number");
        }
    }

    private void needDay(int day) {
        if (day < 0 || day >= world.land.days) {
            throw new IndexOutOfBoundsException("there is no such day");
        }
    }

    private void needGoal(int person, int village, int day) {
        need(Land.PEOPLE, person);
        need(Land.VILLAGES, village);
        if (day != NONE) {
            needDay(day);
        }
    }

    private static void needWithin(int number, int low, int high) {
        if (number < low || number > high) {
            throw new IllegalArgumentException("the number is none that can be");
        }
    }

    private static void needTwo(int one, int other) {
        if (one == other) {
            throw new IllegalArgumentException("both are one");
        }
    }

    private static void needColumn(int what, int columns) {
        if (what < 0 || what >= columns) {
            throw new NoSuchElementException("there is no such thing to ask for");
        }
    }

    /** Called behind all refusals, so that only what really happens can be undone. */
    private void remember() {
        if (remembered == MOST_ACTS) {
            Life oldest = acts[0];
            for (int i = 1; i < MOST_ACTS; i++) {
                acts[i - 1] = acts[i];
            }
            acts[MOST_ACTS - 1] = oldest;
            remembered--;
        }
        acts[remembered].copyFrom(world.life);
        remembered++;
    }

    private void readClues() {
        if (!clues.read(tape, world.land.days)) {
            throw new IllegalArgumentException("the tape holds no clues");
        }
    }

    private static int sum(int[] row, int many) {
        int total = 0;
        for (int i = 0; i < many && i < row.length; i++) {
            total += row[i];
        }
        return total;
    }

    private static void copyRow(int[] from, int[] to) {
        System.arraycopy(from, 0, to, 0, Math.min(from.length, to.length));
    }

    private static void copyRows(int[][] from, int[][] to) {
        for (int i = 0; i < from.length && i < to.length; i++) {
            copyRow(from[i], to[i]);
        }
    }

    /** The TAPE; and, while a text on it is read, the thing that is looked at. */
    private static final class Tape {
        private static final int MOST = 400;
        private static final int FED = 20;

        private final byte[] bytes = new byte[MOST];
        private int length;
        private int size;
        private int begin;
        private int stop;
        int fault = NONE;

        int add(int a, int b, int c, int d, int e) {
            if (length + FED > MOST) {
                return NONE;
            }
            put(a);
            put(b);
            put(c);
            put(d);
            put(e);
            return length;
        }

        private void put(int number) {
            for (int shift = 24; shift >= 0 && length < MOST; shift -= 8) {
                bytes[length] = (byte) (number >>> shift);
                length++;
            }
        }

        boolean cut(int n) {
            if (n < 0 || n > length) {
                return false;
            }
            length = n;
            return true;
        }

        /** The bytes stay till the next feed, so the TAPE is used up before they are read. */
        int useUp() {
            size = length;
            length = 0;
            return size;
        }

        int byteAt(int at) {
            return at >= 0 && at < size ? bytes[at] & 255 : 0;
        }

        void open() {
            useUp();
            fault = NONE;
            stop = 0;
            next();
        }

        void next() {
            int at = stop;
            while (at < size && bytes[at] == ' ') {
                at++;
            }
            begin = at;
            if (at < size) {
                int low = 0;
                int high = 0;
                if (bytes[at] >= 'a' && bytes[at] <= 'z') {
                    low = 'a';
                    high = 'z';
                } else if (bytes[at] >= '0' && bytes[at] <= '9') {
                    low = '0';
                    high = '9';
                }
                at++;
                while (at < size && high > 0 && bytes[at] >= low && bytes[at] <= high) {
                    at++;
                }
            }
            stop = at;
        }

        boolean atEnd() {
            return begin >= size;
        }

        boolean isWord(String word) {
            if (stop - begin != word.length()) {
                return false;
            }
            for (int i = 0; i < word.length(); i++) {
                if (bytes[begin + i] != word.charAt(i)) {
                    return false;
                }
            }
            return true;
        }

        boolean isSign(char sign) {
            return begin < size && bytes[begin] == sign;
        }

        boolean isNumber() {
            return begin < size && bytes[begin] >= '0' && bytes[begin] <= '9';
        }

        int place() {
            return begin;
        }

        void fail(int at) {
            fault = at;
            throw new IllegalArgumentException("the text is wrong");
        }

        /** Whether one more LINE stands behind so many; what parts it from them is passed. */
        boolean hasLine(int lines, int most) {
            if (atEnd()) {
                return false;
            }
            if (lines > 0) {
                takeWord(";");
                if (atEnd() || lines >= most) {
                    fail(begin);
                }
            }
            return true;
        }

        void takeWord(String word) {
            if (!isWord(word)) {
                fail(begin);
            }
            next();
        }

        int takeNumber(int digits, int low, int high) {
            if (!isNumber() || stop - begin > digits) {
                fail(begin);
            }
            int value = 0;
            for (int at = begin; at < stop; at++) {
                value = value * 10 + bytes[at] - '0';
            }
            if (value < low || value > high) {
                fail(begin);
            }
            next();
            return value;
        }
    }

    /** What is told in the texts of THE COUNTRY and stays so, whatever is done. */
    private static final class Land {
        static final int VILLAGES = 0;
        static final int PEOPLE = 1;
        static final int FACTS = 2;
        static final int ROADS = 3;
        static final int DEBTS = 4;
        static final int TASKS = 5;
        static final int KINDS = 6;

        static final int MOST_VILLAGES = 6;
        static final int MOST_PEOPLE = 8;
        static final int MOST_FACTS = 8;
        static final int MOST_ROADS = 12;
        static final int MOST_DEBTS = 8;
        static final int MOST_TASKS = 8;
        static final int MOST_DAYS = 16;

        static final int LONG = 2;
        static final int DEBTOR = 0;
        static final int CREDITOR = 1;
        static final int OWED = 2;
        static final int PLACE = 3;
        static final int MADE = 4;
        static final int DUE = 5;
        static final int AFTER = 2;

        final int[] counts = new int[KINDS];
        final int[][] facts = new int[MOST_FACTS][2];
        final int[][] roads = new int[MOST_ROADS][3];
        final int[][] debts = new int[MOST_DEBTS][6];
        final int[][] tasks = new int[MOST_TASKS][3];
        int days = 7;
        int feasts;
        int chance;
        int texts;
        int coinsTold;

        void copyFrom(Land other) {
            copyRow(other.counts, counts);
            copyRows(other.facts, facts);
            copyRows(other.roads, roads);
            copyRows(other.debts, debts);
            copyRows(other.tasks, tasks);
            days = other.days;
            feasts = other.feasts;
            chance = other.chance;
            texts = other.texts;
            coinsTold = other.coinsTold;
        }

        boolean has(int kind, int number) {
            return number >= 0 && number < counts[kind];
        }

        int pageOf(int time) {
            return days > 0 ? Math.floorMod(time, days) : 0;
        }

        int printingOf(int time) {
            return days > 0 ? Math.floorDiv(time, days) : 0;
        }

        /** NONE too for one who is ON A ROAD: no ROAD ends there. */
        int otherEnd(int road, int village) {
            if (roads[road][0] == village) {
                return roads[road][1];
            }
            return roads[road][1] == village ? roads[road][0] : NONE;
        }
    }

    /** What acts and dawns change; an act is undone by going back to one of these. */
    private static final class Life {
        static final int LOG_COLUMNS = 4;
        private static final int LOG_ROWS = 100;

        final int[][] table = new int[Land.MOST_VILLAGES][Land.MOST_DAYS];
        final int[] where = new int[Land.MOST_PEOPLE];
        final int[] whither = new int[Land.MOST_PEOPLE];
        final int[] arrival = new int[Land.MOST_PEOPLE];
        final int[] coins = new int[Land.MOST_PEOPLE];
        final int[] lived = new int[Land.MOST_PEOPLE];
        final int[] knows = new int[Land.MOST_PEOPLE];
        final int[] missed = new int[Land.MOST_DEBTS];
        final int[] doneBy = new int[Land.MOST_TASKS];
        final int[] doneAt = new int[Land.MOST_TASKS];
        private final int[] records = new int[LOG_ROWS * LOG_COLUMNS];
        int rows;
        int time;
        int seed = 1;
        int earned;
        int lost;

        void copyFrom(Life other) {
            copyRows(other.table, table);
            copyRow(other.where, where);
            copyRow(other.whither, whither);
            copyRow(other.arrival, arrival);
            copyRow(other.coins, coins);
            copyRow(other.lived, lived);
            copyRow(other.knows, knows);
            copyRow(other.missed, missed);
            copyRow(other.doneBy, doneBy);
            copyRow(other.doneAt, doneAt);
            copyRow(other.records, records);
            rows = other.rows;
            time = other.time;
            seed = other.seed;
            earned = other.earned;
            lost = other.lost;
        }

        void swapPages(int village, int one, int other) {
            int[] days = table[village];
            int day = days[one];
            days[one] = days[other];
            days[other] = day;
        }

        boolean isKnown(int person, int fact) {
            return (knows[person] >> fact & 1) != 0;
        }

        boolean learn(int person, int fact, int by) {
            if (isKnown(person, fact)) {
                return false;
            }
            knows[person] |= 1 << fact;
            record(person, fact, by);
            return true;
        }

        private void record(int person, int fact, int by) {
            if (rows == LOG_ROWS) {
                System.arraycopy(records, LOG_COLUMNS, records, 0, records.length - LOG_COLUMNS);
                rows--;
            }
            int at = rows * LOG_COLUMNS;
            records[at] = time;
            records[at + 1] = person;
            records[at + 2] = fact;
            records[at + 3] = by;
            rows++;
        }

        int logged(int ago, int what) {
            if (ago < 0 || ago >= rows) {
                return NONE;
            }
            return records[(rows - 1 - ago) * LOG_COLUMNS + what];
        }

        int knownAt(int person, int then) {
            int known = knows[person];
            for (int at = 0; at < rows * LOG_COLUMNS; at += LOG_COLUMNS) {
                if (records[at + 1] == person && records[at] > then) {
                    known &= ~(1 << records[at + 2]);
                }
            }
            return known;
        }
    }

    /** THE LAW, its conditions with what is joined ahead of what joins it, so that no tree is kept. */
    private static final class Law {
        static final int MOST_LINES = 12;
        static final int BAR = 0;
        static final int HUSH = 1;
        static final int EARN = 2;

        static final int PERSON = 1000;
        static final int VILLAGE = 1001;
        static final int DAY = 1002;
        static final int PAGE = 1003;
        static final int PRINTING = 1004;
        static final int KNOWN = 1005;
        static final int LIVED = 1006;
        static final int COINS = 1007;
        static final int AGAIN = 1008;
        static final int FEAST = 1009;
        static final int NOT = 1010;
        static final int ADD = 1011;
        static final int LESS = 1012;
        static final int MORE = 1013;
        static final int AND = 1014;
        static final int OR = 1015;
        static final int SCENE = NOT - PERSON;

        private final int[] kinds = new int[MOST_LINES];
        private final int[] gains = new int[MOST_LINES];
        private final int[] stops = new int[MOST_LINES];
        private final int[] code = new int[Tape.MOST];
        private final int[] stack = new int[40];
        private int used;
        int lines = NONE;

        void copyFrom(Law other) {
            copyRow(other.kinds, kinds);
            copyRow(other.gains, gains);
            copyRow(other.stops, stops);
            copyRow(other.code, code);
            used = other.used;
            lines = other.lines;
        }

        void clear() {
            used = 0;
            lines = 0;
        }

        /** There is room for all: each sign of a condition is at least one byte of the TAPE. */
        void emit(int sign) {
            if (used < code.length) {
                code[used] = sign;
                used++;
            }
        }

        void closeLine(int kind, int gain) {
            if (lines >= 0 && lines < MOST_LINES) {
                kinds[lines] = kind;
                gains[lines] = gain;
                stops[lines] = used;
                lines++;
            }
        }

        boolean has(int kind) {
            for (int line = 0; line < lines; line++) {
                if (kinds[line] == kind) {
                    return true;
                }
            }
            return false;
        }

        boolean someHolds(int kind, int[] scene) {
            for (int line = 0; line < lines; line++) {
                if (kinds[line] == kind && holds(line, scene)) {
                    return true;
                }
            }
            return false;
        }

        int gainIn(int[] scene) {
            int total = 0;
            for (int line = 0; line < lines; line++) {
                if (kinds[line] == EARN && holds(line, scene)) {
                    total += gains[line];
                }
            }
            return total;
        }

        private boolean holds(int line, int[] scene) {
            int start = line == 0 ? 0 : stops[line - 1];
            int top = 0;
            for (int at = start; at < stops[line]; at++) {
                int sign = code[at];
                if (sign < NOT) {
                    if (top < stack.length) {
                        stack[top] = sign < PERSON ? sign : scene[sign - PERSON];
                        top++;
                    }
                } else if (sign == NOT) {
                    if (top > 0) {
                        stack[top - 1] = 1 - stack[top - 1];
                    }
                } else if (top > 1) {
                    top--;
                    stack[top - 1] = joined(sign, stack[top - 1], stack[top]);
                }
            }
            return top == 0 || stack[0] != 0;
        }

        private static int joined(int sign, int one, int other) {
            switch (sign) {
                case ADD: return one + other;
                case LESS: return one < other ? 1 : 0;
                case MORE: return one > other ? 1 : 0;
                case AND: return one & other;
                default: return one | other;
            }
        }
    }

    /** All that THE IMAGE keeps. */
    private static final class World {
        final Land land = new Land();
        final Life life = new Life();
        final Law law = new Law();
        final int[] scene = new int[Law.SCENE];

        void copyFrom(World other) {
            land.copyFrom(other.land);
            life.copyFrom(other.life);
            law.copyFrom(other.law);
        }

        int dayAt(int village, int time) {
            return life.table[village][land.pageOf(time)];
        }

        boolean isFeast(int village, int time) {
            return (land.feasts >> dayAt(village, time) & 1) != 0;
        }

        int pageWith(int village, int day) {
            for (int page = 0; page < land.days; page++) {
                if (life.table[village][page] == day) {
                    return page;
                }
            }
            return NONE;
        }

        int nextTime(int village, int day, int from) {
            return from + land.pageOf(pageWith(village, day) - land.pageOf(from));
        }

        boolean isBarred(int person, int village, int time) {
            setScene(person, village, time);
            return law.someHolds(Law.BAR, scene);
        }

        boolean isSilent(int person, int village, int time) {
            if (!law.has(Law.HUSH)) {
                return false;
            }
            setScene(person, village, time);
            return law.someHolds(Law.HUSH, scene);
        }

        int gainOf(int person, int village, int time) {
            if (!law.has(Law.EARN)) {
                return 0;
            }
            setScene(person, village, time);
            return law.gainIn(scene);
        }

        void setScene(int person, int village, int time) {
            int page = land.pageOf(time);
            int day = life.table[village][page];
            scene[Law.PERSON - Law.PERSON] = person;
            scene[Law.VILLAGE - Law.PERSON] = village;
            scene[Law.DAY - Law.PERSON] = day;
            scene[Law.PAGE - Law.PERSON] = page;
            scene[Law.PRINTING - Law.PERSON] = land.printingOf(time);
            scene[Law.KNOWN - Law.PERSON] = Integer.bitCount(life.knows[person]);
            scene[Law.LIVED - Law.PERSON] = Integer.bitCount(life.lived[person]);
            scene[Law.COINS - Law.PERSON] = life.coins[person];
            scene[Law.AGAIN - Law.PERSON] = life.lived[person] >> day & 1;
            scene[Law.FEAST - Law.PERSON] = land.feasts >> day & 1;
        }

        int company(int person) {
            int there = 0;
            for (int other = 0; other < land.counts[Land.PEOPLE]; other++) {
                if (other != person && life.where[person] != NONE && life.where[other] == life.where[person]) {
                    there |= 1 << other;
                }
            }
            return there;
        }

        boolean canWork(int person, int task) {
            int[] row = land.tasks[task];
            int village = life.where[person];
            if (life.doneBy[task] != NONE || village == NONE || village != row[0]) {
                return false;
            }
            boolean ready = row[Land.AFTER] == NONE || life.doneBy[row[Land.AFTER]] != NONE;
            return ready && dayAt(village, life.time) == row[1];
        }

        int tasksDone() {
            return land.counts[Land.TASKS] - Integer.bitCount(openTasks(NONE));
        }

        int openTasks(int tasks) {
            int open = 0;
            for (int task = 0; task < land.counts[Land.TASKS]; task++) {
                if ((tasks >> task & 1) != 0 && life.doneBy[task] == NONE) {
                    open |= 1 << task;
                }
            }
            return open;
        }

        int samePages(int village, int other, int shift) {
            int same = 0;
            for (int page = 0; page < land.days; page++) {
                if (dayAt(village, page) == dayAt(other, page + shift)) {
                    same++;
                }
            }
            return same;
        }

        int bestShift(int village, int other) {
            int best = 0;
            for (int shift = 1; shift < land.days; shift++) {
                if (samePages(village, other, shift) > samePages(village, other, best)) {
                    best = shift;
                }
            }
            return best;
        }

        private boolean isAlike(int village, int page, int later, int w) {
            return w > 0 && dayAt(village, page) % w == dayAt(village, page + later) % w;
        }

        int touches(int village, int w) {
            int many = 0;
            for (int page = 0; page < land.days; page++) {
                if (isAlike(village, page, 1, w)) {
                    many++;
                }
            }
            return many;
        }

        int firstTouch(int village, int w) {
            for (int page = 0; page < land.days; page++) {
                if (isAlike(village, page, 1, w)) {
                    return page;
                }
            }
            return NONE;
        }

        int roundOf(int village, int w) {
            for (int later = 1; later < land.days; later++) {
                if (goesOnAlike(village, later, w)) {
                    return later;
                }
            }
            return land.days;
        }

        private boolean goesOnAlike(int village, int later, int w) {
            for (int page = 0; page < land.days; page++) {
                if (!isAlike(village, page, later, w)) {
                    return false;
                }
            }
            return true;
        }
    }

    /** Reads a text of THE COUNTRY into a spare world, which is thrown away if the text is wrong. */
    private static final class CountryReader {
        private static final int MOST_LINES = 14;
        private static final int DIGITS = 4;

        private final Tape text;
        private final World world;
        private final Land land;
        private final Life life;

        CountryReader(Tape text, World world) {
            this.text = text;
            this.world = world;
            this.land = world.land;
            this.life = world.life;
        }

        void read() {
            text.open();
            for (int line = 0; line <= MOST_LINES && text.hasLine(line, MOST_LINES); line++) {
                if (!readThing() && !readRest()) {
                    text.fail(text.place());
                }
            }
        }

        private boolean readThing() {
            if (text.isWord("village")) {
                readVillage();
            } else if (text.isWord("person")) {
                readPerson();
            } else if (text.isWord("fact")) {
                readFact();
            } else if (text.isWord("road")) {
                readRoad();
            } else if (text.isWord("debt")) {
                readDebt();
            } else if (text.isWord("task")) {
                readTask();
            } else {
                return false;
            }
            return true;
        }

        private boolean readRest() {
            if (text.isWord("days")) {
                readDays();
            } else if (text.isWord("feast")) {
                text.next();
                land.feasts |= 1 << takeDay();
            } else if (text.isWord("chance")) {
                text.next();
                land.chance = text.takeNumber(DIGITS, 0, 100);
            } else if (text.isWord("misprint")) {
                readMisprint();
            } else {
                return false;
            }
            return true;
        }

        /** The number that one more of a kind gets; its first word is wrong if there are too many. */
        private int begin(int kind, int most) {
            if (land.counts[kind] >= most) {
                text.fail(text.place());
            }
            text.next();
            return land.counts[kind];
        }

        private int takeOne(int kind) {
            return text.takeNumber(DIGITS, 0, land.counts[kind] - 1);
        }

        private int takeDay() {
            return text.takeNumber(DIGITS, 0, land.days - 1);
        }

        private int takeAnother(int kind, int one) {
            int at = text.place();
            int other = takeOne(kind);
            if (other == one) {
                text.fail(at);
            }
            return other;
        }

        private int takeNewDay(int seen) {
            int at = text.place();
            int day = takeDay();
            if ((seen >> day & 1) != 0) {
                text.fail(at);
            }
            return day;
        }

        private void readDays() {
            if (land.counts[Land.VILLAGES] > 0) {
                text.fail(text.place());
            }
            text.next();
            land.days = text.takeNumber(DIGITS, 3, Land.MOST_DAYS);
            land.feasts &= (1 << land.days) - 1;
        }

        private void readVillage() {
            int village = begin(Land.VILLAGES, Land.MOST_VILLAGES);
            int seen = 0;
            for (int page = 0; page < land.days; page++) {
                int day = takeNewDay(seen);
                seen |= 1 << day;
                life.table[village][page] = day;
            }
            land.counts[Land.VILLAGES]++;
        }

        private void readPerson() {
            int person = begin(Land.PEOPLE, Land.MOST_PEOPLE);
            life.where[person] = takeOne(Land.VILLAGES);
            life.whither[person] = NONE;
            life.arrival[person] = NONE;
            life.coins[person] = text.takeNumber(DIGITS, 0, MOST_COINS);
            life.lived[person] = 0;
            life.knows[person] = 0;
            land.coinsTold += life.coins[person];
            land.counts[Land.PEOPLE]++;
        }

        private void readFact() {
            int[] row = land.facts[begin(Land.FACTS, Land.MOST_FACTS)];
            row[0] = takeOne(Land.VILLAGES);
            row[1] = takeDay();
            land.counts[Land.FACTS]++;
        }

        private void readRoad() {
            int[] row = land.roads[begin(Land.ROADS, Land.MOST_ROADS)];
            row[0] = takeOne(Land.VILLAGES);
            row[1] = takeAnother(Land.VILLAGES, row[0]);
            row[Land.LONG] = text.takeNumber(DIGITS, 1, 5);
            land.counts[Land.ROADS]++;
        }

        private void readDebt() {
            int debt = begin(Land.DEBTS, Land.MOST_DEBTS);
            int[] row = land.debts[debt];
            row[Land.DEBTOR] = takeOne(Land.PEOPLE);
            row[Land.CREDITOR] = takeAnother(Land.PEOPLE, row[Land.DEBTOR]);
            row[Land.OWED] = text.takeNumber(DIGITS, 1, 999);
            text.takeWord("in");
            row[Land.PLACE] = takeOne(Land.VILLAGES);
            text.takeWord("made");
            row[Land.MADE] = takeDay();
            text.takeWord("due");
            row[Land.DUE] = takeNewDay(1 << row[Land.MADE]);
            life.missed[debt] = 0;
            land.counts[Land.DEBTS]++;
        }

        private void readTask() {
            int task = begin(Land.TASKS, Land.MOST_TASKS);
            int[] row = land.tasks[task];
            row[0] = takeOne(Land.VILLAGES);
            row[1] = takeDay();
            row[Land.AFTER] = NONE;
            if (text.isWord("after")) {
                text.next();
                row[Land.AFTER] = takeOne(Land.TASKS);
            }
            life.doneBy[task] = NONE;
            life.doneAt[task] = NONE;
            land.counts[Land.TASKS]++;
        }

        private void readMisprint() {
            text.next();
            int village = takeOne(Land.VILLAGES);
            int one = world.pageWith(village, takeDay());
            int other = world.pageWith(village, takeDay());
            if (one != NONE && other != NONE) {
                life.swapPages(village, one, other);
            }
        }
    }

    /** Reads a text of THE LAW into a spare law, which is thrown away if the text is wrong. */
    private static final class LawReader {
        private static final int DIGITS = 3;
        private static final int DEEPEST = 6;

        private final Tape text;
        private final Law law;

        LawReader(Tape text, Law law) {
            this.text = text;
            this.law = law;
        }

        void read() {
            text.open();
            law.clear();
            for (int line = 0; line <= Law.MOST_LINES && text.hasLine(line, Law.MOST_LINES); line++) {
                int kind = takeKind();
                int gain = kind == Law.EARN ? text.takeNumber(DIGITS, 0, 99) : 0;
                if (text.isWord("if")) {
                    text.next();
                    readCondition(0);
                }
                law.closeLine(kind, gain);
            }
        }

        private int takeKind() {
            int kind = Law.EARN;
            if (text.isWord("bar")) {
                kind = Law.BAR;
            } else if (text.isWord("hush")) {
                kind = Law.HUSH;
            } else if (!text.isWord("earn")) {
                text.fail(text.place());
            }
            text.next();
            return kind;
        }

        private void readCondition(int depth) {
            for (int alls = 0; alls < Tape.MOST; alls++) {
                readAtom(depth);
                for (int i = 0; i < Tape.MOST && text.isWord("and"); i++) {
                    text.next();
                    readAtom(depth);
                    law.emit(Law.AND);
                }
                if (alls > 0) {
                    law.emit(Law.OR);
                }
                if (!text.isWord("or")) {
                    return;
                }
                text.next();
            }
        }

        private void readAtom(int depth) {
            boolean not = text.isWord("not");
            if (not || text.isSign('(')) {
                if (depth >= DEEPEST) {
                    text.fail(text.place());
                }
                text.next();
                if (not) {
                    readAtom(depth + 1);
                    law.emit(Law.NOT);
                } else {
                    readCondition(depth + 1);
                    text.takeWord(")");
                }
            } else if (text.isWord("again") || text.isWord("feast")) {
                law.emit(text.isWord("again") ? Law.AGAIN : Law.FEAST);
                text.next();
            } else {
                readSum();
                boolean less = text.isSign('<');
                text.takeWord(less ? "<" : ">");
                readSum();
                law.emit(less ? Law.LESS : Law.MORE);
            }
        }

        private void readSum() {
            for (int parts = 0; parts < Tape.MOST; parts++) {
                if (text.isNumber()) {
                    law.emit(text.takeNumber(DIGITS, 0, 999));
                } else {
                    law.emit(partHere());
                    text.next();
                }
                if (parts > 0) {
                    law.emit(Law.ADD);
                }
                if (!text.isSign('+')) {
                    return;
                }
                text.next();
            }
        }

        private int partHere() {
            if (text.isWord("person")) {
                return Law.PERSON;
            } else if (text.isWord("village")) {
                return Law.VILLAGE;
            } else if (text.isWord("day")) {
                return Law.DAY;
            } else if (text.isWord("page")) {
                return Law.PAGE;
            } else if (text.isWord("printing")) {
                return Law.PRINTING;
            } else if (text.isWord("known")) {
                return Law.KNOWN;
            } else if (text.isWord("lived")) {
                return Law.LIVED;
            } else if (!text.isWord("coins")) {
                text.fail(text.place());
            }
            return Law.COINS;
        }
    }

    /** The dawns that go by. */
    private static final class Dawns {
        private static final int OF_THE_DAY = 9;

        private final World world;
        private final Land land;
        private final Life life;
        private final int[] knewThen = new int[Land.MOST_PEOPLE];
        private int news;

        Dawns(World world) {
            this.world = world;
            this.land = world.land;
            this.life = world.life;
        }

        int pass(int n) {
            news = 0;
            for (int i = 0; i < n; i++) {
                passOne();
            }
            return news;
        }

        private void passOne() {
            life.time++;
            if (land.pageOf(life.time) == 0) {
                misprintAll();
            }
            arriveAll();
            for (int person = 0; person < land.counts[Land.PEOPLE]; person++) {
                if (life.where[person] != NONE) {
                    earn(person);
                    live(person);
                }
            }
            talk();
            for (int debt = 0; debt < land.counts[Land.DEBTS]; debt++) {
                settle(debt);
            }
        }

        private int draw() {
            life.seed = 1103515245 * life.seed + 12345;
            return life.seed >>> 16 & 32767;
        }

        private void misprintAll() {
            for (int village = 0; village < land.counts[Land.VILLAGES]; village++) {
                if (draw() % 100 < land.chance) {
                    int one = land.pageOf(draw());
                    int other = land.pageOf(draw());
                    life.swapPages(village, one, other);
                }
            }
        }

        private void arriveAll() {
            for (int person = 0; person < land.counts[Land.PEOPLE]; person++) {
                if (life.where[person] == NONE && life.arrival[person] == life.time) {
                    life.where[person] = life.whither[person];
                    life.whither[person] = NONE;
                    life.arrival[person] = NONE;
                }
            }
        }

        private void earn(int person) {
            int gain = world.gainOf(person, life.where[person], life.time);
            int taken = Math.min(gain, MOST_COINS - life.coins[person]);
            life.coins[person] += taken;
            life.earned += taken;
            life.lost += gain - taken;
        }

        private void live(int person) {
            int village = life.where[person];
            int day = world.dayAt(village, life.time);
            life.lived[person] |= 1 << day;
            for (int fact = 0; fact < land.counts[Land.FACTS]; fact++) {
                if (land.facts[fact][0] == village && land.facts[fact][1] == day) {
                    news += life.learn(person, fact, OF_THE_DAY) ? 1 : 0;
                }
            }
        }

        /** All is asked ahead of the first who learns, as what one knows may make one silent. */
        private void talk() {
            int people = land.counts[Land.PEOPLE];
            for (int person = 0; person < people; person++) {
                int village = life.where[person];
                boolean speaks = village != NONE && !world.isSilent(person, village, life.time);
                knewThen[person] = speaks ? life.knows[person] : 0;
            }
            for (int person = 0; person < people; person++) {
                for (int fact = 0; fact < land.counts[Land.FACTS] && life.where[person] != NONE; fact++) {
                    if (!life.isKnown(person, fact)) {
                        hear(person, fact);
                    }
                }
            }
        }

        private void hear(int person, int fact) {
            for (int other = 0; other < land.counts[Land.PEOPLE]; other++) {
                if (life.where[other] == life.where[person] && (knewThen[other] >> fact & 1) != 0) {
                    news += life.learn(person, fact, other) ? 1 : 0;
                    return;
                }
            }
        }

        private void settle(int debt) {
            int[] row = land.debts[debt];
            int day = world.dayAt(row[Land.PLACE], life.time);
            if (day == row[Land.MADE]) {
                pay(debt, row[Land.CREDITOR], row[Land.DEBTOR]);
            } else if (day == row[Land.DUE]) {
                pay(debt, row[Land.DEBTOR], row[Land.CREDITOR]);
            }
        }

        private void pay(int debt, int from, int to) {
            int owed = land.debts[debt][Land.OWED];
            int paid = Math.min(owed, Math.min(life.coins[from], MOST_COINS - life.coins[to]));
            life.coins[from] -= paid;
            life.coins[to] += paid;
            life.missed[debt] += owed - paid;
        }
    }

    /**
     * What one can do FROM NOW ON. One may always wait, so the VILLAGES one can be in are told
     * by the soonest TIME in each, and being somewhere sooner is never worse.
     */
    private static final class Ways {
        static final int DAWNS = 200;
        static final int FEAST_DAWNS = 60;
        static final int PLAN_TASKS = 5;
        private static final int PLAN_DAWNS = 400;
        private static final int FAR = 2000000000;
        private static final int ASKED = 8;

        private final World world;
        private final Land land;
        private final Life life;
        private final int[] bars = new int[Land.MOST_PEOPLE * (PLAN_DAWNS + 1)];
        private final int[] soon = new int[Land.MOST_VILLAGES];
        private final int[] other = new int[Land.MOST_VILLAGES];
        private final int[] told = new int[Land.MOST_PEOPLE];
        private final int[] warned = new int[Land.MOST_PEOPLE];
        private final int[][] feasts = new int[FEAST_DAWNS + 1][Land.MOST_VILLAGES];
        private final int[][] steps = new int[PLAN_TASKS][Land.MOST_VILLAGES];
        private boolean someBar;
        private int firstTask;

        Ways(World world) {
            this.world = world;
            this.land = world.land;
            this.life = world.life;
        }

        /** What was asked of THE LAW is kept for one call alone: the next one may find all changed. */
        private void begin() {
            someBar = world.law.has(Law.BAR);
            if (someBar) {
                Arrays.fill(bars, 0);
            }
        }

        private boolean isBarred(int person, int village, int time) {
            int later = time - life.time;
            if (!someBar || later < 0 || later > PLAN_DAWNS) {
                return someBar;
            }
            int cell = person * (PLAN_DAWNS + 1) + later;
            if ((bars[cell] >> ASKED + village & 1) == 0) {
                bars[cell] |= 1 << ASKED + village;
                world.setScene(person, village, time);
                if (world.law.someHolds(Law.BAR, world.scene)) {
                    bars[cell] |= 1 << village;
                }
            }
            return (bars[cell] >> village & 1) != 0;
        }

        private boolean isOnRoad(int person) {
            return life.where[person] == NONE;
        }

        private int startPlace(int person) {
            return isOnRoad(person) ? life.whither[person] : life.where[person];
        }

        private int startTime(int person) {
            return isOnRoad(person) ? life.arrival[person] : life.time;
        }

        private void spreadFromStart(int person, int limit) {
            spread(person, startPlace(person), startTime(person), limit);
        }

        /** Fills soon; a VILLAGE is left once, at the first TIME at which one is not BARRED there. */
        private void spread(int person, int village, int from, int limit) {
            Arrays.fill(soon, FAR);
            if (from > limit) {
                return;
            }
            soon[village] = from;
            int waiting = 1 << village;
            int left = 0;
            for (int time = from; time < limit && waiting != 0; time++) {
                waiting = 0;
                for (int place = 0; place < land.counts[Land.VILLAGES]; place++) {
                    boolean here = soon[place] <= time && (left >> place & 1) == 0;
                    if (here && !isBarred(person, place, time)) {
                        left |= 1 << place;
                        leave(place, time, limit);
                    }
                }
                for (int place = 0; place < land.counts[Land.VILLAGES]; place++) {
                    if (soon[place] != FAR && (left >> place & 1) == 0) {
                        waiting |= 1 << place;
                    }
                }
            }
        }

        private void leave(int village, int time, int limit) {
            for (int road = 0; road < land.counts[Land.ROADS]; road++) {
                int to = land.otherEnd(road, village);
                int there = time + land.roads[road][Land.LONG];
                if (to != NONE && there <= limit && there < soon[to]) {
                    soon[to] = there;
                }
            }
        }

        int soonestTime(int person, int village, int day) {
            begin();
            int limit = life.time + DAWNS;
            spreadFromStart(person, limit);
            if (soon[village] == FAR) {
                return NONE;
            }
            int time = day == NONE ? soon[village] : world.nextTime(village, day, soon[village]);
            return time > limit ? NONE : time;
        }

        /** Only behind soonestTime, whose answer the goal is, and in the same call. */
        int firstRoad(int person, int village, int goal) {
            int home = life.where[person];
            if (goal == NONE || home == NONE || home == village) {
                return NONE;
            }
            int[] latest = other;
            Arrays.fill(latest, NONE);
            latest[village] = goal;
            for (int time = goal - 1; time >= life.time; time--) {
                for (int place = 0; place < land.counts[Land.VILLAGES]; place++) {
                    int road = latest[place] == NONE ? roadInTime(place, time, latest) : NONE;
                    if (road != NONE && !isBarred(person, place, time)) {
                        if (place == home) {
                            return road;
                        }
                        latest[place] = time;
                    }
                }
            }
            return NONE;
        }

        private int roadInTime(int village, int time, int[] latest) {
            for (int road = 0; road < land.counts[Land.ROADS]; road++) {
                int to = land.otherEnd(road, village);
                if (to != NONE && time + land.roads[road][Land.LONG] <= latest[to]) {
                    return road;
                }
            }
            return NONE;
        }

        int meetingOf(int one, int two, boolean place) {
            begin();
            int limit = life.time + DAWNS;
            spreadFromStart(one, limit);
            copyRow(soon, other);
            spreadFromStart(two, limit);
            int best = FAR;
            int where = NONE;
            for (int village = 0; village < land.counts[Land.VILLAGES]; village++) {
                int time = Math.max(soon[village], other[village]);
                if (time < best) {
                    best = time;
                    where = village;
                }
            }
            return place || where == NONE ? where : best;
        }

        int coneOf(int person, int n) {
            begin();
            spreadFromStart(person, life.time + n);
            int villages = 0;
            for (int village = 0; village < land.counts[Land.VILLAGES]; village++) {
                if (soon[village] != FAR) {
                    villages |= 1 << village;
                }
            }
            return villages;
        }

        int warnedBy(int person, int n) {
            begin();
            return warnedSet(person, life.time + n);
        }

        /** The next to go on is always the one told soonest, so nobody is told sooner later on. */
        private int warnedSet(int person, int limit) {
            int people = land.counts[Land.PEOPLE];
            Arrays.fill(told, FAR);
            told[person] = startTime(person);
            int gone = 0;
            for (int i = 0; i < people; i++) {
                int teller = soonestTold(gone);
                if (teller == NONE) {
                    break;
                }
                gone |= 1 << teller;
                spread(teller, startPlace(teller), told[teller], limit);
                for (int hearer = 0; hearer < people; hearer++) {
                    int time = Math.max(soon[startPlace(hearer)], startTime(hearer));
                    if (time <= limit && time < told[hearer]) {
                        told[hearer] = time;
                    }
                }
            }
            return gone;
        }

        private int soonestTold(int gone) {
            int best = NONE;
            for (int person = 0; person < land.counts[Land.PEOPLE]; person++) {
                boolean goes = (gone >> person & 1) == 0 && told[person] != FAR;
                if (goes && (best == NONE || told[person] < told[best])) {
                    best = person;
                }
            }
            return best;
        }

        int toldLeast(int n) {
            begin();
            int people = land.counts[Land.PEOPLE];
            int all = (1 << people) - 1;
            for (int person = 0; person < people; person++) {
                warned[person] = warnedSet(person, life.time + n);
            }
            int best = all;
            for (int set = 0; set < all; set++) {
                if (Integer.bitCount(set) < Integer.bitCount(best) && warnedByAll(set) == all) {
                    best = set;
                }
            }
            return best;
        }

        private int warnedByAll(int set) {
            int union = 0;
            for (int person = 0; person < land.counts[Land.PEOPLE]; person++) {
                if ((set >> person & 1) != 0) {
                    union |= warned[person];
                }
            }
            return union;
        }

        int mostFeasts(int person, int n) {
            begin();
            for (int later = 0; later <= n && later < feasts.length; later++) {
                Arrays.fill(feasts[later], NONE);
            }
            int from = startTime(person) - life.time;
            reachFeast(startPlace(person), from, n, 0);
            int most = 0;
            for (int later = Math.max(from, 0); later <= n; later++) {
                for (int village = 0; village < land.counts[Land.VILLAGES]; village++) {
                    int many = feasts[later][village];
                    if (many != NONE) {
                        most = Math.max(most, many);
                        goOnFeasting(person, village, later, n);
                    }
                }
            }
            return most;
        }

        private void goOnFeasting(int person, int village, int later, int n) {
            int many = feasts[later][village];
            reachFeast(village, later + 1, n, many);
            if (later < n && !isBarred(person, village, life.time + later)) {
                for (int road = 0; road < land.counts[Land.ROADS]; road++) {
                    int to = land.otherEnd(road, village);
                    if (to != NONE) {
                        reachFeast(to, later + land.roads[road][Land.LONG], n, many);
                    }
                }
            }
        }

        /** NOW's own FEAST counts for nothing: they are counted from the next dawn on. */
        private void reachFeast(int village, int later, int n, int before) {
            if (later >= 0 && later <= n && later < feasts.length) {
                boolean feast = later > 0 && world.isFeast(village, life.time + later);
                feasts[later][village] = Math.max(feasts[later][village], feast ? before + 1 : before);
            }
        }

        int planOf(int person, int tasks, boolean first) {
            if (tasks == 0) {
                return first ? NONE : life.time;
            }
            begin();
            firstTask = NONE;
            int start = startTime(person);
            int time = hasAllAhead(tasks) ? finish(person, tasks, startPlace(person), start, start, 0) : FAR;
            if (time == FAR) {
                return NONE;
            }
            return first ? firstTask : time;
        }

        private boolean hasAllAhead(int tasks) {
            for (int task = 0; task < land.counts[Land.TASKS]; task++) {
                int after = land.tasks[task][Land.AFTER];
                boolean asked = (tasks >> task & 1) != 0 && after != NONE && life.doneBy[after] == NONE;
                if (asked && (tasks >> after & 1) == 0) {
                    return false;
                }
            }
            return true;
        }

        /** The least TIME by which the rest is done by one who is there from a TIME on, and may do the next then. */
        private int finish(int person, int rest, int village, int here, int ready, int depth) {
            if (rest == 0 || depth >= PLAN_TASKS) {
                return rest == 0 ? here : FAR;
            }
            int limit = life.time + PLAN_DAWNS;
            spread(person, village, here, limit);
            copyRow(soon, steps[depth]);
            int best = FAR;
            for (int task = 0; task < land.counts[Land.TASKS]; task++) {
                int time = (rest >> task & 1) != 0 ? doneSoonest(task, rest, ready, steps[depth]) : FAR;
                if (time <= limit && time < best) {
                    int last = finish(person, rest & ~(1 << task), land.tasks[task][0], time, time + 1, depth + 1);
                    if (last < best) {
                        best = last;
                        firstTask = depth == 0 ? task : firstTask;
                    }
                }
            }
            return best;
        }

        private int doneSoonest(int task, int rest, int ready, int[] reached) {
            int[] row = land.tasks[task];
            int after = row[Land.AFTER];
            boolean held = after != NONE && (rest >> after & 1) != 0;
            if (held || reached[row[0]] == FAR) {
                return FAR;
            }
            return world.nextTime(row[0], row[1], Math.max(reached[row[0]], ready));
        }
    }

    /** Clues of bread; DAYS that clues bind to one another form a group that turns as one. */
    private static final class Clues {
        static final int MOST_DAYS = 9;
        private static final int BYTES = 3;

        private final int[] clues = new int[Tape.MOST];
        private final int[] group = new int[MOST_DAYS];
        private final int[] offset = new int[MOST_DAYS];
        private final int[] pages = new int[MOST_DAYS];
        private int length;

        boolean read(Tape tape, int days) {
            length = tape.useUp();
            for (int i = 0; i < length && i < clues.length; i++) {
                clues[i] = tape.byteAt(i);
                if (clues[i] >= days) {
                    return false;
                }
            }
            return length % BYTES == 0;
        }

        boolean fit(World world, int village) {
            for (int i = 0; i + 2 < length; i += BYTES) {
                int apart = world.pageWith(village, clues[i]) - world.pageWith(village, clues[i + 1]);
                if (world.land.pageOf(apart) != clues[i + 2]) {
                    return false;
                }
            }
            return true;
        }

        int orders(int days) {
            if (days < 1 || days > MOST_DAYS || !bindAll(days) || !spreadPages(days)) {
                return 0;
            }
            int turned = turn(pages[group[0]], days - offset[0], days);
            int many = placings(0, turned, days);
            int alone = 0;
            for (int label = 0; label < days; label++) {
                if (label != group[0] && Integer.bitCount(pages[label]) == 1) {
                    alone++;
                    many *= alone;
                }
            }
            return many;
        }

        private boolean bindAll(int days) {
            for (int day = 0; day < days; day++) {
                group[day] = day;
                offset[day] = 0;
            }
            for (int i = 0; i + 2 < length; i += BYTES) {
                if (!bind(clues[i], clues[i + 1], clues[i + 2], days)) {
                    return false;
                }
            }
            return true;
        }

        private boolean bind(int one, int other, int apart, int days) {
            int more = Math.floorMod(offset[other] + apart - offset[one], days);
            if (group[one] == group[other]) {
                return more == 0;
            }
            int moved = group[one];
            for (int day = 0; day < days; day++) {
                if (group[day] == moved) {
                    group[day] = group[other];
                    offset[day] = (offset[day] + more) % days;
                }
            }
            return true;
        }

        /** Two DAYS of one group on one PAGE: no order fits. */
        private boolean spreadPages(int days) {
            Arrays.fill(pages, 0);
            for (int day = 0; day < days; day++) {
                int page = 1 << offset[day];
                if ((pages[group[day]] & page) != 0) {
                    return false;
                }
                pages[group[day]] |= page;
            }
            return true;
        }

        private static int turn(int set, int by, int days) {
            int turned = set << by;
            return (turned | turned >> days) & (1 << days) - 1;
        }

        /** DAYS that stand alone are left out: they fill what is free in any order. */
        private int placings(int from, int taken, int days) {
            for (int label = from; label < days; label++) {
                if (label != group[0] && Integer.bitCount(pages[label]) > 1) {
                    int many = 0;
                    for (int by = 0; by < days; by++) {
                        int set = turn(pages[label], by, days);
                        many += (set & taken) == 0 ? placings(label + 1, taken | set, days) : 0;
                    }
                    return many;
                }
            }
            return 1;
        }
    }

    /** Debts netted: each set that is even among itself saves one payment. */
    private static final class Netting {
        private final int[] sums = new int[1 << Land.MOST_PEOPLE];
        private final int[] evens = new int[1 << Land.MOST_PEOPLE];

        int balanceOf(Land land, int person) {
            int balance = 0;
            for (int debt = 0; debt < land.counts[Land.DEBTS]; debt++) {
                int[] row = land.debts[debt];
                if (row[Land.CREDITOR] == person) {
                    balance += row[Land.OWED];
                } else if (row[Land.DEBTOR] == person) {
                    balance -= row[Land.OWED];
                }
            }
            return balance;
        }

        int fewestPayments(Land land) {
            int people = land.counts[Land.PEOPLE];
            int uneven = 0;
            for (int person = 0; person < people; person++) {
                sums[1 << person] = balanceOf(land, person);
                uneven |= sums[1 << person] != 0 ? 1 << person : 0;
            }
            for (int set = 1; set < 1 << people; set++) {
                int lowest = set & -set;
                if (set != lowest) {
                    sums[set] = sums[lowest] + sums[set ^ lowest];
                }
                evens[set] = mostEven(set, people);
            }
            return Integer.bitCount(uneven) - evens[uneven];
        }

        private int mostEven(int set, int people) {
            int most = 0;
            for (int person = 0; person < people; person++) {
                if ((set >> person & 1) != 0) {
                    most = Math.max(most, evens[set ^ 1 << person]);
                }
            }
            return sums[set] == 0 ? most + 1 : most;
        }
    }
}
