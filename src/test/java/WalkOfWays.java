/** The document's third part, and the paragraph behind it on exceptions, indices and sets. */
final class WalkOfWays {
    static final String VALLEY = "days 4;village 0 1 2 3;village 2 0 3 1;village 3 2 1 0;road 0 1 1;road 1 2 2;road 0 2 4;"
        + "person 0 10;person 1 20;person 2 0;fact 0 2;fact 1 3;feast 3;debt 0 1 5 in 0 made 3 due 1";
    static final String TASKS = "task 1 3;task 0 0;task 2 0 after 0";
    /** In the VALLEY: nobody sets out ahead of TIME 199, or of 399. */
    private static final String AHEAD_OF_199 = "bar if printing < 49 or printing < 50 and page < 3";
    private static final String AHEAD_OF_399 = "bar if printing < 99 or printing < 100 and page < 3";

    private final Walk w;

    WalkOfWays(Walk w) {
        this.w = w;
    }

    void all() {
        fromNowOn();
        soonest();
        meetingAndCone();
        warned();
        knew();
        tables();
        bread();
        debts();
        feastsAndPlans();
        undone();
        exceptions();
        numbers();
    }

    static String way(DayTables x, int person, int village, int day) {
        return x.soonest(person, village, day) + " by " + x.first(person, village, day);
    }

    static String met(DayTables x, int one, int other) {
        return x.meeting(one, other, false) + " in " + x.meeting(one, other, true);
    }

    static String plan(DayTables x, int person, int tasks) {
        return x.plan(person, tasks, false) + " by " + x.plan(person, tasks, true);
    }

    static int bread(DayTables x, int... clues) {
        Check.feed(x, Check.bytes(clues));
        return x.bread();
    }

    static int tables(DayTables x, int... clues) {
        Check.feed(x, Check.bytes(clues));
        return x.tables();
    }

    private static DayTables valley(String law) {
        DayTables x = Check.land(VALLEY, TASKS);
        Check.law(x, law);
        return x;
    }

    private void fromNowOn() {
        w.passes("==== 3.");
        w.reads("FROM NOW ON one PERSON can: wait in a VILLAGE dawn by dawn, or SET OUT (BARRED by facts known, DAYS lived, COINS as now, "
            + "VILLAGE and TIME as they are then); ON A ROAD, one is in no VILLAGE till one is there.");
        DayTables x = Check.land(VALLEY);
        w.dues("wait, set out", "3 1 3", () -> x.soonest(0, 0, 3), () -> x.soonest(0, 1, -1), () -> x.soonest(0, 2, -1));
        DayTables facts = valley("bar if known < 1 and page < 2 and village < 1");
        w.dues("BARRED on PAGES 0 and 1 of VILLAGE 0", "3 4 5", () -> facts.soonest(0, 1, -1), () -> facts.soonest(0, 1, 2),
            () -> facts.soonest(0, 2, -1));
        w.dues("FACTS known now", "true 1 true 3", () -> facts.tell(0, 0), () -> facts.soonest(0, 1, -1), facts::undo, () -> facts.soonest(0, 1, -1));
        DayTables lived = valley("bar if lived < 1");
        w.dues("DAYS lived now", "-1 0 2", () -> lived.soonest(0, 1, -1), () -> lived.dawns(1), () -> lived.soonest(0, 1, -1));
        DayTables coins = valley("bar if coins < 10");
        w.dues("COINS now, and those behind a DEBT that is DUE", "1 0 -1", () -> coins.soonest(0, 1, -1), () -> coins.dawns(1),
            () -> coins.soonest(0, 1, -1));
        x.go(2, 1);
        w.dues("ON A ROAD", "0 0 2 2 4", () -> x.cone(2, 0), () -> x.cone(2, 1), () -> x.cone(2, 2), () -> x.soonest(2, 1, -1),
            () -> x.soonest(2, 2, -1));
        w.reads("TABLES stay as they are now.");
        DayTables y = Check.land(VALLEY, "chance 100");
        y.dawns(1);
        w.dues("beyond PAGE 0, behind a misprint", "4 3 1 4", () -> y.soonest(0, 0, 0), () -> Walk.country(y, "misprint 0 0 1"),
            () -> y.soonest(0, 0, 0), () -> y.soonest(0, 0, 1));
    }

    private void soonest() {
        w.passes("```text");
        w.reads("SOONEST of a PERSON to a VILLAGE, on a DAY (or on whatever DAY: NONE): the least TIME, NOW's too, at which one can be there so "
            + "(within 200 dawns); none; the ROAD by which one sets out first on a way by which one is there at that TIME (of several that by "
            + "which one waits the longest ahead of it; then the least ROAD; none, if waiting alone does, or ON A ROAD).");
        DayTables x = Check.land(VALLEY);
        w.dues("waiting alone", "0 by -1 0 by -1 3 by -1", () -> way(x, 0, 0, -1), () -> way(x, 0, 0, 0), () -> way(x, 0, 0, 3));
        w.dues("by VILLAGE 1; a dawn later there, so a dawn later from here", "3 by 0 3 by 0 4 by 0", () -> way(x, 0, 2, -1), () -> way(x, 0, 2, 0),
            () -> way(x, 0, 2, 3));
        DayTables direct = valley("bar if village > 0 and village < 2");
        w.dues("not by VILLAGE 1", "4 by 2 4 by 2 7 by 2", () -> way(direct, 0, 2, -1), () -> way(direct, 0, 2, 3), () -> way(direct, 0, 2, 0));
        DayTables more = Check.land(VALLEY, "road 1 0 1;road 0 1 5");
        w.dues("the least ROAD of two as late; the one as late as can be", "1 by 0 4 by 0", () -> way(more, 0, 1, -1), () -> way(more, 0, 1, 2));
        DayTables late = valley(AHEAD_OF_199);
        w.dues("200 dawns on, and beyond", "200 by 0 200 by 0 -1 by -1 -1 by -1", () -> way(late, 0, 1, -1), () -> way(late, 0, 1, 2),
            () -> way(late, 0, 1, 0), () -> way(late, 0, 2, -1));
        x.go(0, 0);
        w.dues("ON A ROAD", "1 by -1 2 by -1 3 by -1", () -> way(x, 0, 1, -1), () -> way(x, 0, 0, -1), () -> way(x, 0, 2, -1));
    }

    private void meetingAndCone() {
        w.reads("MEETING of two: the least TIME (within 200 dawns) at which both can be in one VILLAGE; the least such VILLAGE; none.");
        DayTables x = Check.land(VALLEY);
        w.dues("half way, in the lesser VILLAGE, either way", "2 in 1 1 in 0 2 in 1", () -> met(x, 0, 2), () -> met(x, 0, 1), () -> met(x, 2, 1));
        w.dues("none", "-1 in -1", () -> met(valley("bar"), 0, 1));
        DayTables late = valley(AHEAD_OF_199);
        w.dues("200 dawns on, and beyond", "200 in 0 -1 in -1", () -> met(late, 0, 1), () -> met(late, 0, 2));
        w.reads("CONE of a PERSON by N dawns (0 to 200): VILLAGES in which one can be at TIME and N, as bits.");
        w.dues("by 0, 1, 2, 3, 200", "1 3 3 7 7", () -> x.cone(0, 0), () -> x.cone(0, 1), () -> x.cone(0, 2), () -> x.cone(0, 3), () -> x.cone(0, 200));
        w.dues("by 199, 200", "1 3", () -> late.cone(0, 199), () -> late.cone(0, 200));
    }

    private static String warnedBy(DayTables x, int person) {
        return Walk.row(5, n -> x.warned(person, n));
    }

    private void warned() {
        w.reads("WARNED by N dawns (0 to 200): all others stay where they are (or come to where they go, and stay there), till they are told: "
            + "as soon as that PERSON, or one who was told, can be there (not ahead of when they are there themselves); each who is told goes on "
            + "from there then (nobody is SILENT): who is told by TIME and N, as bits, that PERSON, too.");
        DayTables x = valley("hush");
        w.dues("by 0, 1, 2, 3, 4", "1 3 3 7 7 2 3 7 7 7 4 4 6 7 7", () -> warnedBy(x, 0), () -> warnedBy(x, 1), () -> warnedBy(x, 2));
        DayTables goesOn = valley("bar if person < 1 and village > 0");
        w.due("one who was told goes on", "1 3 3 7 7", () -> warnedBy(goesOn, 0));
        DayTables longer = valley("bar if person < 2 and village > 0");
        w.due("neither may go on, so by the ROAD of 4", "1 3 3 3 7", () -> warnedBy(longer, 0));
        x.go(2, 1);
        w.dues("one who comes, and tells when there", "1 3 7 7 7 4 4 6 7 7", () -> warnedBy(x, 0), () -> warnedBy(x, 2));
        w.reads("TOLD LEAST: the fewest PEOPLE who must know it now so that all are WARNED by N dawns, each as if alone: of several the least as bits.");
        DayTables y = Check.land(VALLEY);
        w.due("by 0, 1, 2, 3", "7 5 2 1", () -> Walk.row(4, n -> y.least(n)));
    }

    private void knew() {
        w.reads("KNEW: what one knew at a TIME, as bits: all that is known now but for what came, by THE LOG, later.");
        DayTables x = Check.land(VALLEY);
        x.tell(0, 1);
        x.dawns(3);
        w.dues("TIME 0 to 3", "2 2 3 3 0 0 2 2", () -> Walk.row(4, time -> x.knew(0, time)), () -> Walk.row(4, time -> x.knew(1, time)));
    }

    private void tables() {
        DayTables x = Check.land(VALLEY);
        w.reads("ALIKE: two TABLES: at how many PAGES both have one DAY; the SHIFT (0 to D less 1) by which the second one's PAGES, so many later, "
            + "are most so: the least such.");
        w.dues("PAGES", "0 4 0", () -> x.alike(0, 1, false), () -> x.alike(2, 2, false), () -> x.alike(0, 2, false));
        w.dues("SHIFTS", "2 1 0 2", () -> x.alike(0, 1, true), () -> x.alike(0, 2, true), () -> x.alike(1, 1, true), () -> x.alike(1, 2, true));
        w.reads("TOUCH by W (2 to 7): PAGES of a VILLAGE of which the next one (behind the last the first) has a DAY that is alike modulo W: "
            + "how many; the first.");
        w.dues("2 0 3 1 by 2, by 3", "2 0 1 1", () -> x.touch(1, 2, false), () -> x.touch(1, 2, true), () -> x.touch(1, 3, false),
            () -> x.touch(1, 3, true));
        w.dues("0 1 2 3 by 2, by 3, by 7", "0 -1 1 3 0 -1", () -> x.touch(0, 2, false), () -> x.touch(0, 2, true), () -> x.touch(0, 3, false),
            () -> x.touch(0, 3, true), () -> x.touch(0, 7, false), () -> x.touch(0, 7, true));
        w.reads("ROUND: the least number of PAGES after which a TABLE, told by DAYS modulo W, goes on as from its begin, all the way round "
            + "(D, if no less).");
        w.dues("0 1 0 1; 0 0 1 1; 0 1 2 0", "2 4 4", () -> x.round(0, 2), () -> x.round(1, 2), () -> x.round(0, 3));
    }

    private void bread() {
        DayTables x = Check.land(VALLEY);
        w.reads("BREAD: clues are told: on DAY A bread of DAY B is K dawns old (K 0 to D less 1): VILLAGES of which the TABLE fits all: "
            + "PAGE of A less that of B, modulo D, is K: as bits.");
        w.dues("one, two, none", "1 6 2 0 7", () -> bread(x, 1, 0, 1), () -> bread(x, 3, 0, 1), () -> bread(x, 3, 0, 1, 2, 1, 1),
            () -> bread(x, 1, 0, 1, 3, 0, 1), () -> bread(x));
        w.dues("K", "0 " + Sentences.ARGUMENT, () -> bread(x, 0, 0, 3), () -> bread(x, 0, 0, 4));
        w.reads("TABLES: of all orders of D DAYS, DAY 0 being at PAGE 0, how many fit (D 9 at most, else -3).");
        w.dues("of 4 DAYS", "6 2 1 0", () -> tables(x), () -> tables(x, 1, 0, 1), () -> tables(x, 1, 0, 1, 2, 0, 2), () -> tables(x, 1, 2, 0));
        w.dues("of 9, of 10", "40320 -3", () -> tables(Check.land("days 9")), () -> tables(Check.land("days 10")));
    }

    private void debts() {
        w.reads("EARLY: of a DEBT by how many dawns DUE is ahead of MADE, in the order of PAGES (below 0: behind).");
        DayTables x = Check.land(VALLEY, "debt 2 0 7 in 1 made 2 due 1;person 0 0");
        w.dues("PAGES 3 and 1, 0 and 3", "2 -3", () -> x.early(0), () -> x.early(1));
        w.reads("NETTED: all DEBTS as owed (N of each) netted: what each PERSON has to get less to pay; the fewest payments by which all is even "
            + "(at most 8 PEOPLE: by sets that are even among themselves).");
        w.dues("0 pays 1 5, 2 pays 0 7", "2 5 -7 0 2", () -> Walk.row(4, person -> x.netted(person)), () -> x.netted(-1));
        w.dues("two pairs", "3 7 2", () -> Walk.country(x, "debt 0 2 7 in 1 made 2 due 1;debt 2 3 7 in 1 made 2 due 1"), () -> x.netted(3),
            () -> x.netted(-1));
        w.dues("no set but all", "4 3", () -> Walk.country(x, "debt 1 3 1 in 1 made 2 due 1"), () -> x.netted(-1));
    }

    private void feastsAndPlans() {
        w.reads("FEASTED by N dawns (1 to 60): the most dawns, from the next one on, at which a PERSON can be in a VILLAGE that has a FEAST then.");
        DayTables x = Check.land(VALLEY, TASKS);
        w.due("by 1 to 8", "0 1 2 2 2 3 4 4", () -> Walk.row(8, n -> x.feasted(0, n + 1)));
        DayTables feast = Check.land(VALLEY);
        feast.dawns(3);
        w.dues("NOW's counts not", "0 0 1 2", () -> Walk.row(4, n -> feast.feasted(0, n + 1)));
        w.reads("PLAN of a PERSON for a set of TASKS (5 at most that are not done, else -3): the least TIME at which one can have done all "
            + "(one a dawn at most, NOW's too; each in its VILLAGE on its DAY; AFTER done ahead of it, as one of these, or already; those that are "
            + "done count for nothing); the TASK that is done first in the first such order (by numbers); none within 400 dawns.");
        w.dues("one", "2 by 0 0 by 1 -1 by -1", () -> plan(x, 0, 1), () -> plan(x, 0, 2), () -> plan(x, 0, 4));
        w.dues("two; three, of two orders as soon", "2 by 1 7 by 0 7 by 0", () -> plan(x, 0, 3), () -> plan(x, 0, 5), () -> plan(x, 0, 7));
        DayTables done = Check.land(VALLEY, TASKS);
        w.dues("done already", "1 2 by 0 0 by -1", () -> done.work(0, 1), () -> plan(done, 0, 3), () -> plan(done, 0, 2));
        done.dawns(2);
        w.dues("AFTER done already, by another one", "2 7 by 2", () -> done.work(1, 0), () -> plan(done, 0, 4));
        DayTables many = Check.land(VALLEY, Walk.repeated("task 0 0", 6));
        w.dues("one a dawn; five; six", "4 by 0 16 by 0 -3 by -3", () -> plan(many, 0, 3), () -> plan(many, 0, 31), () -> plan(many, 0, 63));
        DayTables late = valley(AHEAD_OF_399);
        w.dues("400 dawns on, and beyond", "3 400 by 3 -1 by -1", () -> Walk.country(late, "task 1 2;task 1 0"), () -> plan(late, 0, 8),
            () -> plan(late, 0, 16));
    }

    private void undone() {
        w.reads("UNDONE: the latest ACT, or DAWNS of one call, not undone yet (12 are remembered): all is as ahead of it (but for the TAPE, fault(), "
            + "THE IMAGE).");
        DayTables x = Check.land(VALLEY, TASKS);
        String first = Check.all(x);
        x.dawns(7);
        String second = Check.all(x);
        x.go(0, 0);
        w.dues("the latest, the one ahead of it, none", "true true false", x::undo, () -> Check.all(x).equals(second) && x.undo(), x::undo);
        w.due("all is as ahead of both", first, () -> Check.all(x));
        for (int act = 0; act < 13; act++) {
            x.dawns(1);
        }
        w.due("twelve", "12 1 0", () -> {
            int acts = x.count(19);
            for (int act = 0; act < 12; act++) {
                x.undo();
            }
            return acts + " " + x.count(8) + " " + x.count(19);
        });
        w.reads("A text, going back: none are remembered.");
        x.image();
        w.dues("a text", "true 1 3 0 false", () -> x.tell(0, 0), () -> x.count(19), () -> Walk.country(x, ""), () -> x.count(19), x::undo);
        w.dues("THE LAW", "true 0 false", () -> x.tell(0, 1), () -> Walk.law(x, ""), x::undo);
        w.dues("going back", "true true false", () -> x.tell(1, 1), x::back, x::undo);
        w.reads("THE IMAGE (one) of all may be kept, and gone back to (but for the TAPE, fault() and THE IMAGE itself).");
        w.dues("as it was kept", "1 0 2 -1", () -> x.count(8), () -> x.person(0, 5), () -> x.count(6), () -> x.count(7));
        Check.said(() -> Check.law(x, "bar bar"));
        Check.feed(x, Check.bytes("hush"));
        w.dues("but for the TAPE, fault()", "true 4 1 true true", x::back, x::fault, x::law, x::back, x::back);
        w.passes("```");
    }

    private void exceptions() {
        w.reads("Of several exceptions the one told first is thrown; a call that throws changes nothing but the TAPE, where it is used up, and "
            + "fault(), where a text is read (also by one that is refused).");
        DayTables x = Check.land(VALLEY, TASKS);
        x.tell(0, 0);
        String before = Check.all(x);
        w.dues("INDEX ahead of ARGUMENT, of ELEMENT; ARGUMENT ahead of STATE", Sentences.INDEX + " " + Sentences.INDEX + " " + Sentences.ARGUMENT,
            () -> x.day(3, -1), () -> x.person(3, 7), () -> x.give(0, 1, 0));
        w.dues("refused", Sentences.STATE + " " + Sentences.STATE + " " + Sentences.STATE, () -> x.go(0, 1), () -> x.give(0, 1, 1), () -> x.work(0, 0));
        Check.feed(x, Check.bytes(9));
        w.dues("the TAPE is used up, no text was read", Sentences.ARGUMENT + " false -1", x::bread, () -> x.end(1), x::fault);
        w.dues("a text was read", "wrong at 6 false 6", () -> Walk.country(x, "feast 4"), () -> x.end(1), x::fault);
        w.dues("nothing else", "1 " + before, () -> x.count(19), () -> Check.all(x));
        for (int text = 2; text < 12; text++) {
            Check.country(x, "");
        }
        w.dues("a text that is refused", "wrong at 6 " + Sentences.UNSUPPORTED + " -1 false", () -> Walk.country(x, "feast 4"),
            () -> Walk.country(x, "feast 0"), x::fault, () -> x.end(1));
    }

    private void numbers() {
        DayTables x = Check.land(VALLEY, TASKS);
        w.reads("IndexOutOfBoundsException: there is no such VILLAGE, PERSON, FACT, ROAD, DEBT, TASK, DAY.");
        String six = (Sentences.INDEX + " ").repeat(6).trim();
        w.dues("one more than there are", six, () -> x.day(3, 0), () -> x.cone(3, 0), () -> x.fact(2, true), () -> x.road(3, 0), () -> x.debt(1, 0),
            () -> x.task(3, 0));
        w.dues("one less than the first", six, () -> x.day(-1, 0), () -> x.cone(-1, 0), () -> x.fact(-1, true), () -> x.road(-1, 0),
            () -> x.debt(-1, 0), () -> x.task(-1, 0));
        w.dues("DAYS", Sentences.INDEX + " " + Sentences.INDEX, () -> x.page(0, 4), () -> x.page(0, -1));
        w.reads("IllegalArgumentException: a number is none, or two are one.");
        w.dues("a number, two", Sentences.ARGUMENT + " " + Sentences.ARGUMENT, () -> x.dawns(0), () -> x.meeting(1, 1, false));
        w.reads("IllegalStateException: it cannot be.");
        w.dues("not from there", Sentences.STATE, () -> x.go(2, 0));
        w.reads("Sets are bits; of none they count for nothing.");
        w.dues("TASKS 3 to 31", "0 by -1 0 by 1", () -> plan(x, 0, -8), () -> plan(x, 0, -8 | 2));
    }
}
