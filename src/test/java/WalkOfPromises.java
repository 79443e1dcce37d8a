/** The document's promises, 1 to 42, and its last paragraph. */
final class WalkOfPromises {
    private static final String VALLEY = WalkOfWays.VALLEY;
    private static final String TASKS = WalkOfWays.TASKS;
    private static final String INDEX = Sentences.INDEX;
    private static final String ARGUMENT = Sentences.ARGUMENT;
    private static final String STATE = Sentences.STATE;
    private static final String ELEMENT = Sentences.ELEMENT;

    private final Walk w;

    WalkOfPromises(Walk w) {
        this.w = w;
    }

    void all() {
        tape();
        texts();
        tables();
        people();
        things();
        acts();
        told();
        ways();
        warned();
        likeness();
        clues();
        owed();
        plans();
        kept();
        counts();
        w.passes("## Not promised");
        w.passesTo("and nothing about an object after its 512th call.");
        w.passes("and nothing about an object after its 512th call.");
    }

    private void tape() {
        w.passes("## Promise 1: A new object `DayTables()`:");
        w.reads("Nothing told.");
        DayTables x = new DayTables();
        w.due("counts", "0 0 0 0 0 0 0 -1 0 7 0 0 0 0 0 0 0 0 0 0", () -> Walk.row(20, what -> x.count(what)));
        w.dues("no fault, no act, no image, no TAPE", "-1 false false false", x::fault, x::undo, x::back, () -> x.end(1));
        w.promise(2, "feed", "int feed(int a, int b, int c, int d, int e)");
        w.reads("Twenty bytes come behind the TAPE, of each number the highest first: how many it has; NONE, and none come, "
            + "if it would have more than 400.");
        w.dues("\"feast 4;feast 05feas\", \"t 1\" and zeros", "20 40 true 1 50", () -> x.feed(0x66656173, 0x7420343b, 0x66656173, 0x74203035, 0x3b666561),
            () -> x.feed(0x73742031, 0, 0, 0, 0), () -> x.end(24), x::country, () -> x.count(10));
        w.due("to 400, and no more", "20 400 -1 true false", () -> {
            int first = x.feed(1, 2, 3, 4, 5);
            int last = first;
            while (last < 400) {
                last = x.feed(1, 2, 3, 4, 5);
            }
            return first + " " + last + " " + x.feed(1, 2, 3, 4, 5) + " " + x.end(400) + " " + x.end(401);
        });
        w.promise(3, "end", "boolean end(int n)");
        w.reads("The TAPE has its first n bytes alone: true; false, and nothing happens, if it has fewer, or n is below 0.");
        w.dues("fewer", "false false true true false true", () -> x.end(401), () -> x.end(-1), () -> x.end(400), () -> x.end(7), () -> x.end(8),
            () -> x.end(0));
    }

    private void texts() {
        w.promise(4, "country", "int country() throws IllegalArgumentException, UnsupportedOperationException");
        w.reads("Uses the TAPE up: a text of THE COUNTRY: how many texts there are.");
        DayTables x = new DayTables();
        w.dues("two texts, the second is empty", "1 2", () -> Walk.country(x, VALLEY), x::country);
        w.reads("IllegalArgumentException: it is wrong; UnsupportedOperationException: there are 12.");
        w.dues("wrong", ARGUMENT + " 2", () -> Check.country(x, "feast 4"), () -> x.count(6));
        for (int text = 3; text <= 12; text++) {
            Check.country(x, "feast 1");
        }
        w.dues("a 13th", Sentences.UNSUPPORTED + " 12 10", () -> Check.country(x, "feast 0"), () -> x.count(6), () -> x.count(10));
        w.promise(5, "law", "int law() throws IllegalArgumentException");
        w.reads("Uses the TAPE up: THE LAW: how many LINES.");
        w.dues("three, none", "3 0", () -> Check.law(x, "bar if again;earn 5;hush"), x::law);
        w.reads("IllegalArgumentException: the text is wrong.");
        w.dues("wrong", ARGUMENT + " 0", () -> Check.law(x, "bar if"), () -> x.count(7));
        w.promise(6, "fault", "int fault()");
        w.reads("The first wrong byte of the latest text that was read; NONE without one, and ahead of any.");
        DayTables y = new DayTables();
        w.dues("ahead of any, of a wrong one, of a right one", "-1 wrong at 6 6 1 -1", y::fault, () -> Walk.country(y, "feast 7"), y::fault,
            () -> Walk.country(y, "feast 6"), y::fault);
    }

    private void tables() {
        DayTables x = Check.land(VALLEY);
        w.promise(7, "day", "int day(int village, int time) throws IndexOutOfBoundsException, IllegalArgumentException");
        w.reads("THE DAY of a VILLAGE at a TIME (from now, or any, by its TABLE now).");
        x.dawns(9);
        w.dues("gone by, now, to come", "2 0 3 1", () -> x.day(1, 0), () -> x.day(1, 9), () -> x.day(1, 10), () -> x.day(1, 999999));
        w.reads("IllegalArgumentException: TIME is not 0 to 1000000.");
        w.dues("bounds", "0 0 " + ARGUMENT + " " + ARGUMENT, () -> x.day(0, 0), () -> x.day(0, 1000000), () -> x.day(0, -1), () -> x.day(0, 1000001));
        w.promise(8, "page", "int page(int village, int day) throws IndexOutOfBoundsException");
        w.reads("The PAGE of a DAY in a TABLE.");
        w.dues("2 0 3 1", "1 3 0 2", () -> Walk.row(4, day -> x.page(1, day)));
        w.dues("none", INDEX + " " + INDEX, () -> x.page(3, 0), () -> x.page(0, 4));
        w.promise(9, "when", "int when(int village, int day, int time) throws IndexOutOfBoundsException, IllegalArgumentException");
        w.reads("The least TIME, from one on, at which a VILLAGE has a DAY.");
        w.dues("DAY 3 is on PAGE 2", "2 2 2 6 6", () -> Walk.row(5, time -> x.when(1, 3, time)));
        w.reads("IllegalArgumentException: TIME is not 0 to 1000000.");
        w.dues("bounds", "1000002 " + ARGUMENT + " " + ARGUMENT, () -> x.when(1, 3, 1000000), () -> x.when(1, 3, 1000001), () -> x.when(1, 3, -1));
    }

    private void people() {
        DayTables x = Check.land(VALLEY, "person 0 3");
        w.promise(10, "person", "int person(int person, int what) throws IndexOutOfBoundsException, NoSuchElementException");
        w.reads("Of a PERSON what 0 WHERE (NONE, if ON A ROAD), 1 whither (NONE), 2 at which TIME there (NONE), 3 COINS, 4 LIVED, 5 KNOWS, "
            + "6 who else is in the same VILLAGE, as bits (0, if ON A ROAD).");
        x.dawns(2);
        w.dues("in a VILLAGE", "0 -1 -1 5 6 1 8", () -> Walk.row(7, what -> x.person(0, what)));
        w.dues("ON A ROAD", "6 -1 2 6 5 6 1 0 0", () -> x.go(0, 2), () -> Walk.row(7, what -> x.person(0, what)), () -> x.person(3, 6));
        w.reads("NoSuchElementException: another what.");
        w.dues("7, below", ELEMENT + " " + ELEMENT, () -> x.person(0, 7), () -> x.person(0, -1));
    }

    private void things() {
        DayTables x = Check.land(VALLEY, TASKS);
        w.promise(11, "road", "int road(int road, int what) throws IndexOutOfBoundsException, NoSuchElementException");
        w.reads("Of a ROAD what 0 and 1 the VILLAGES, 2 LONG.");
        w.dues("each", "0 1 1 1 2 2 0 2 4", () -> Walk.row(9, i -> x.road(i / 3, i % 3)));
        w.reads("NoSuchElementException: another what.");
        w.dues("3, below", ELEMENT + " " + ELEMENT, () -> x.road(0, 3), () -> x.road(0, -1));
        w.promise(12, "debt", "int debt(int debt, int what) throws IndexOutOfBoundsException, NoSuchElementException");
        w.reads("Of a DEBT what 0 the debtor, 1 the creditor, 2 N, 3 the VILLAGE, 4 MADE, 5 DUE, 6 MISSED so far.");
        w.due("each", "0 1 5 0 3 1 0", () -> Walk.row(7, what -> x.debt(0, what)));
        w.reads("NoSuchElementException: another what.");
        w.dues("7, below", ELEMENT + " " + ELEMENT, () -> x.debt(0, 7), () -> x.debt(0, -1));
        w.promise(13, "task", "int task(int task, int what) throws IndexOutOfBoundsException, NoSuchElementException");
        w.reads("Of a TASK what 0 the VILLAGE, 1 the DAY, 2 AFTER (NONE), 3 who did it (NONE), 4 at which TIME (NONE).");
        x.dawns(4);
        x.work(0, 1);
        w.dues("not done, done, AFTER", "1 3 -1 -1 -1 0 0 -1 0 4 2 0 0 -1 -1", () -> Walk.row(15, i -> x.task(i / 5, i % 5)));
        w.reads("NoSuchElementException: another what.");
        w.dues("5, below", ELEMENT + " " + ELEMENT, () -> x.task(0, 5), () -> x.task(0, -1));
        w.promise(14, "fact", "int fact(int fact, boolean day) throws IndexOutOfBoundsException");
        w.reads("Of a FACT the VILLAGE (day false), or the DAY.");
        w.dues("each", "0 2 1 3 " + INDEX, () -> x.fact(0, false), () -> x.fact(0, true), () -> x.fact(1, false), () -> x.fact(1, true),
            () -> x.fact(2, false));
        w.promise(15, "rule", "int rule(int person, int village, int what) throws IndexOutOfBoundsException, NoSuchElementException");
        w.reads("Of a PERSON in a VILLAGE (as if there) now what 0 1 if BARRED, 1 1 if SILENT, 2 EARNS.");
        Check.law(x, "bar if village > 1;hush if page < 1;earn 4 if day > 1;earn 90");
        w.dues("at TIME 4", "0 1 90 0 1 94 1 1 94", () -> Walk.row(9, i -> x.rule(0, i / 3, i % 3)));
        w.reads("NoSuchElementException: another what.");
        w.dues("3, below", ELEMENT + " " + ELEMENT, () -> x.rule(0, 0, 3), () -> x.rule(0, 0, -1));
    }

    private void acts() {
        DayTables x = Check.land(VALLEY, TASKS, "person 0 9990");
        w.promise(16, "go", "int go(int person, int road) throws IndexOutOfBoundsException, IllegalStateException");
        w.reads("SET OUT: the TIME at which one is there.");
        w.dues("by either end", "2 2 4", () -> x.go(1, 1), () -> x.go(2, 1), () -> x.go(0, 2));
        w.reads("IllegalStateException: it is refused.");
        w.dues("ON A ROAD, not there", STATE + " " + STATE, () -> x.go(0, 0), () -> x.go(3, 1));
        w.promise(17, "give", "int give(int person, int other, int coins) throws IndexOutOfBoundsException, IllegalArgumentException, "
            + "IllegalStateException");
        DayTables y = Check.land(VALLEY, TASKS, "person 0 9990");
        w.reads("COINS are given: how many the other one has then.");
        w.dues("one, the rest", "9991 9 9999 1", () -> y.give(0, 3, 1), () -> y.person(0, 3), () -> y.give(0, 3, 8), () -> y.person(0, 3));
        w.reads("IllegalArgumentException: they are not 1 to 9999, or both are one; IllegalStateException: not in one VILLAGE, not so many, "
            + "or the other one would have more than 9999.");
        w.dues("numbers", ARGUMENT + " " + ARGUMENT + " " + ARGUMENT, () -> y.give(0, 3, 0), () -> y.give(3, 0, 10000), () -> y.give(3, 3, 1));
        w.dues("states", STATE + " " + STATE + " " + STATE, () -> y.give(3, 1, 1), () -> y.give(0, 3, 2), () -> y.give(0, 3, 1));
        w.promise(18, "work", "int work(int person, int task) throws IndexOutOfBoundsException, IllegalStateException");
        w.reads("A TASK is done: how many are.");
        w.dues("one, two dawns (three come to know a FACT), two", "1 3 2", () -> y.work(3, 1), () -> y.dawns(2), () -> y.work(1, 0));
        w.reads("IllegalStateException: it cannot be.");
        w.dues("done, not there", STATE + " " + STATE, () -> y.work(1, 0), () -> y.work(1, 2));
        w.promise(19, "tell", "boolean tell(int person, int fact) throws IndexOutOfBoundsException");
        w.reads("A FACT is told by hand (by nobody: 8 in THE LOG): whether it is new.");
        w.dues("new, then not", "true 2 2 0 8 false", () -> y.tell(2, 0), () -> Walk.row(4, what -> y.log(0, what)), () -> y.tell(2, 0));
        w.dues("none", INDEX + " " + INDEX, () -> y.tell(4, 0), () -> y.tell(0, 2));
    }

    private void told() {
        w.promise(20, "dawns", "int dawns(int n) throws IllegalArgumentException");
        w.reads("So many DAWNS more (1 to 200): how often one came to know a FACT.");
        DayTables x = Check.land(VALLEY);
        w.dues("none, two, none", "0 2 0 202", () -> x.dawns(1), () -> x.dawns(1), () -> x.dawns(200), () -> x.count(8));
        w.reads("IllegalArgumentException: they are none.");
        w.dues("0, 201, below", ARGUMENT + " " + ARGUMENT + " " + ARGUMENT, () -> x.dawns(0), () -> x.dawns(201), () -> x.dawns(-1));
    }

    private void ways() {
        DayTables x = Check.land(VALLEY, "village 0 1 2 3");
        w.promise(21, "soonest", "int soonest(int person, int village, int day) throws IndexOutOfBoundsException");
        w.reads("SOONEST: TIME; NONE.");
        w.dues("there, on a DAY, never", "3 4 -1 " + INDEX, () -> x.soonest(0, 2, -1), () -> x.soonest(0, 2, 3), () -> x.soonest(0, 3, -1),
            () -> x.soonest(0, 2, 4));
        w.promise(22, "first", "int first(int person, int village, int day) throws IndexOutOfBoundsException");
        w.reads("SOONEST: the ROAD by which one sets out first; NONE.");
        w.dues("there, from there, by waiting, never", "0 1 -1 -1", () -> x.first(0, 2, -1), () -> x.first(2, 0, -1), () -> x.first(0, 0, 2),
            () -> x.first(0, 3, -1));
        w.promise(23, "meeting", "int meeting(int one, int other, boolean where) throws IndexOutOfBoundsException, IllegalArgumentException");
        w.reads("MEETING: TIME (where false), or the VILLAGE; NONE.");
        DayTables apart = Check.land(VALLEY, "village 0 1 2 3;person 3 0");
        w.dues("both, neither", "2 in 1 -1 in -1", () -> WalkOfWays.met(x, 0, 2), () -> WalkOfWays.met(apart, 0, 3));
        w.reads("IllegalArgumentException: both are one.");
        w.dues("both are one", ARGUMENT + " " + INDEX, () -> x.meeting(2, 2, true), () -> x.meeting(3, 3, true));
        w.promise(24, "cone", "int cone(int person, int n) throws IndexOutOfBoundsException, IllegalArgumentException");
        w.reads("CONE, as bits.");
        w.dues("of PERSON 2, by 0 to 3", "4 4 6 7", () -> Walk.row(4, n -> x.cone(2, n)));
        w.reads("IllegalArgumentException: N is none.");
        w.dues("below, above", ARGUMENT + " " + ARGUMENT, () -> x.cone(0, -1), () -> x.cone(0, 201));
    }

    private void warned() {
        DayTables x = Check.land(VALLEY);
        w.promise(25, "warned", "int warned(int person, int n) throws IndexOutOfBoundsException, IllegalArgumentException");
        w.reads("WARNED, as bits.");
        w.dues("of PERSON 1, by 0 to 2", "2 3 7", () -> Walk.row(3, n -> x.warned(1, n)));
        w.reads("IllegalArgumentException: N is none (0 to 200).");
        w.dues("200, below, above", "7 " + ARGUMENT + " " + ARGUMENT, () -> x.warned(0, 200), () -> x.warned(0, -1), () -> x.warned(0, 201));
        w.promise(26, "least", "int least(int n) throws IllegalArgumentException");
        w.reads("TOLD LEAST, as bits.");
        w.dues("by 1, 2", "5 2", () -> x.least(1), () -> x.least(2));
        w.reads("IllegalArgumentException likewise.");
        w.dues("200, below, above", "1 " + ARGUMENT + " " + ARGUMENT, () -> x.least(200), () -> x.least(-1), () -> x.least(201));
        w.promise(27, "knew", "int knew(int person, int time) throws IndexOutOfBoundsException, IllegalArgumentException");
        w.reads("KNEW, as bits.");
        x.dawns(2);
        x.tell(0, 1);
        w.dues("at 1, 2", "0 3", () -> x.knew(0, 1), () -> x.knew(0, 2));
        w.reads("IllegalArgumentException: TIME is below 0.");
        w.dues("0, below", "0 " + ARGUMENT, () -> x.knew(0, 0), () -> x.knew(0, -1));
    }

    private void likeness() {
        DayTables x = Check.land(VALLEY);
        w.promise(28, "alike", "int alike(int village, int other, boolean shift) throws IndexOutOfBoundsException");
        w.reads("ALIKE: at how many PAGES (shift false), or the SHIFT.");
        w.dues("0 1 2 3 and 2 0 3 1", "0 2 " + INDEX, () -> x.alike(0, 1, false), () -> x.alike(0, 1, true), () -> x.alike(0, 3, true));
        w.promise(29, "touch", "int touch(int village, int w, boolean first) throws IndexOutOfBoundsException, IllegalArgumentException");
        w.reads("TOUCH: how many (first false), or the first PAGE; NONE.");
        w.dues("3 2 1 0", "1 3 0 -1", () -> x.touch(2, 3, false), () -> x.touch(2, 3, true), () -> x.touch(2, 2, false), () -> x.touch(2, 2, true));
        w.reads("IllegalArgumentException: W is none.");
        w.dues("1, 8", ARGUMENT + " " + ARGUMENT, () -> x.touch(0, 1, true), () -> x.touch(0, 8, true));
        w.promise(30, "round", "int round(int village, int w) throws IndexOutOfBoundsException, IllegalArgumentException");
        w.reads("ROUND.");
        w.dues("3 2 1 0", "2 4", () -> x.round(2, 2), () -> x.round(2, 7));
        w.reads("IllegalArgumentException: W is none.");
        w.dues("1, 8", ARGUMENT + " " + ARGUMENT, () -> x.round(0, 1), () -> x.round(0, 8));
    }

    private void clues() {
        DayTables x = Check.land(VALLEY);
        w.promise(31, "bread", "int bread() throws IllegalArgumentException");
        w.reads("Uses the TAPE up: BREAD (of each clue three bytes: A, B, K): VILLAGES, as bits.");
        w.dues("DAY 0 is a dawn behind DAY 2, two dawns", "2 5 false", () -> WalkOfWays.bread(x, 0, 2, 1), () -> WalkOfWays.bread(x, 0, 2, 2),
            () -> x.end(1));
        w.reads("IllegalArgumentException: the TAPE is not that (none may be told).");
        w.dues("none, two bytes, no DAY", "7 " + ARGUMENT + " " + ARGUMENT + " false", x::bread, () -> WalkOfWays.bread(x, 0, 2),
            () -> WalkOfWays.bread(x, 0, 4, 1), () -> x.end(1));
        w.promise(32, "tables", "int tables() throws IllegalArgumentException");
        w.reads("Uses the TAPE up: TABLES (clues likewise); -3.");
        DayTables ten = Check.land("days 10");
        w.dues("of 4 DAYS, of 10", "2 -3 false", () -> WalkOfWays.tables(x, 0, 2, 1), () -> WalkOfWays.tables(ten, 0, 2, 1), () -> ten.end(1));
        w.reads("IllegalArgumentException likewise.");
        w.dues("two bytes, no DAY", ARGUMENT + " " + ARGUMENT + " false", () -> WalkOfWays.tables(x, 0, 2), () -> WalkOfWays.tables(ten, 10, 2, 1),
            () -> ten.end(1));
    }

    private void owed() {
        DayTables x = Check.land(VALLEY);
        w.promise(33, "early", "int early(int debt) throws IndexOutOfBoundsException");
        w.reads("EARLY.");
        w.dues("PAGES 3 and 1", "2 " + INDEX, () -> x.early(0), () -> x.early(1));
        w.promise(34, "netted", "int netted(int person) throws IndexOutOfBoundsException");
        w.reads("NETTED: what a PERSON has to get less to pay, or (person NONE) the fewest payments.");
        w.dues("each, payments", "-5 5 0 1 " + INDEX + " " + INDEX, () -> x.netted(0), () -> x.netted(1), () -> x.netted(2), () -> x.netted(-1),
            () -> x.netted(3), () -> x.netted(-2));
    }

    private void plans() {
        DayTables x = Check.land(VALLEY, TASKS, "task 0 0;task 0 0;task 0 0");
        w.promise(35, "feasted", "int feasted(int person, int n) throws IndexOutOfBoundsException, IllegalArgumentException");
        w.reads("FEASTED.");
        w.dues("by 1, 2, 3", "0 1 2", () -> Walk.row(3, n -> x.feasted(0, n + 1)));
        w.reads("IllegalArgumentException: N is none.");
        w.dues("0, 61", ARGUMENT + " " + ARGUMENT, () -> x.feasted(0, 0), () -> x.feasted(0, 61));
        w.promise(36, "plan", "int plan(int person, int tasks, boolean first) throws IndexOutOfBoundsException");
        w.reads("PLAN: TIME (first false), or the TASK that is done first (NONE without any); NONE; -3. (TIME is NOW's without any.)");
        x.dawns(1);
        w.dues("two, none that can be, six, without any", "4 by 0 -1 by -1 -3 by -3 1 by -1", () -> WalkOfWays.plan(x, 0, 3),
            () -> WalkOfWays.plan(x, 0, 4), () -> WalkOfWays.plan(x, 0, 63), () -> WalkOfWays.plan(x, 0, 0));
    }

    private void kept() {
        DayTables x = Check.land(VALLEY);
        x.dawns(2);
        w.promise(37, "log", "int log(int ago, int what) throws NoSuchElementException");
        w.reads("THE LOG so many ago (0 the latest) what 0 TIME, 1 who, 2 the FACT, 3 by whom; NONE without.");
        w.dues("two rows", "2 1 1 9 2 0 0 9 -1 -1 -1 -1 -1", () -> Walk.row(12, i -> x.log(i / 4, i % 4)), () -> x.log(-1, 0));
        w.reads("NoSuchElementException: another what.");
        w.dues("4, below", ELEMENT + " " + ELEMENT, () -> x.log(0, 4), () -> x.log(9, -1));
        w.promise(38, "seed", "int seed(int n)");
        w.reads("SEED: what it was.");
        w.dues("at first, then", "1 -7 8", () -> x.seed(-7), () -> x.seed(8), () -> x.seed(1));
        w.promise(39, "undo", "boolean undo()");
        w.reads("UNDONE: whether there was one.");
        w.dues("the dawns, none", "true 0 false", x::undo, () -> x.count(8), x::undo);
        w.passes("## Promise 40: image `void image()`:");
        w.reads("THE IMAGE is kept.");
        DayTables y = Check.land(VALLEY);
        y.dawns(5);
        y.image();
        y.dawns(6);
        w.dues("and gone back to", "true 5", y::back, () -> y.count(8));
        w.promise(41, "back", "boolean back()");
        w.reads("One goes back to THE IMAGE: true; false, and nothing happens, if none was kept.");
        w.dues("kept, none kept", "true 5 false 0", y::back, () -> y.count(8), x::back, () -> x.count(8));
    }

    private void counts() {
        w.promise(42, "count", "int count(int what)");
        w.reads("0 VILLAGES, 1 PEOPLE, 2 FACTS, 3 ROADS, 4 DEBTS, 5 TASKS, 6 texts of THE COUNTRY, 7 LINES of THE LAW (NONE without one), 8 TIME, 9 D, "
            + "10 FEASTS, as bits, 11 COINS of all, 12 COINS told, 13 EARNED (without LOST), 14 LOST, 15 MISSED of all, 16 TASKS done, "
            + "17 rows of THE LOG, 18 CHANCE, 19 acts that can be UNDONE.");
        DayTables x = Check.land(VALLEY, TASKS);
        w.due("at first", "3 3 2 3 1 3 2 -1 0 4 8 30 30 0 0 0 0 0 0 0", () -> Walk.row(20, what -> x.count(what)));
        Check.country(x, "chance 7;person 2 9998;debt 2 3 9 in 2 made 3 due 2");
        Check.law(x, "earn 3 if person > 2;hush");
        x.work(0, 1);
        x.dawns(2);
        w.due("EARNED 1, LOST 5, MISSED 9", "3 4 2 3 2 3 3 2 2 4 8 10029 10028 1 5 9 1 2 7 2", () -> Walk.row(20, what -> x.count(what)));
        w.reads("NONE for another what.");
        w.dues("20, below", "-1 -1", () -> x.count(20), () -> x.count(-1));
    }
}
