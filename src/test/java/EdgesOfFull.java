/** The full country: as many VILLAGES, PEOPLE, FACTS, ROADS, DEBTS, TASKS and LINES as can be, and full texts. */
final class EdgesOfFull {
    private static final String[] RING = {
        "days 3;village 0 1 2;village 0 1 2;village 0 1 2;village 0 1 2;village 0 1 2;village 0 1 2;feast 1",
        "road 0 1 1;road 1 2 1;road 2 3 1;road 3 4 1;road 4 5 1;road 0 3 5;road 0 3 5;road 0 3 5;road 0 3 5;road 0 3 5;road 0 3 5;road 5 0 1",
        "person 0 10;person 1 10;person 2 10;person 3 10;person 4 10;person 5 10;person 5 10;person 5 10",
        "fact 0 1;fact 1 1;fact 2 1;fact 3 1;fact 4 1;fact 5 1;fact 5 2;fact 5 0",
        "debt 0 1 1 in 0 made 1 due 2;debt 1 2 2 in 1 made 1 due 2;debt 2 3 3 in 2 made 1 due 2;debt 3 4 4 in 3 made 1 due 2",
        "debt 4 5 5 in 4 made 1 due 2;debt 5 6 6 in 5 made 1 due 2;debt 6 7 7 in 5 made 1 due 2;debt 7 0 8 in 5 made 1 due 2",
        "task 0 1;task 1 1;task 2 1;task 3 1;task 4 1;task 5 1;task 5 2 after 5;task 5 0 after 6"};
    private static final String LAW = "earn 1;earn 1;earn 1;earn 1;earn 1;earn 1;earn 1;earn 1;earn 1;earn 1;earn 1;"
        + "bar if village > 4 and page < 1";

    private final Sentences s;

    EdgesOfFull(Sentences s) {
        this.s = s;
    }

    void all() {
        rows();
        ways();
        warnings();
        feastsAndPlans();
        dawns();
        tasksDone();
        tables();
        owed();
        kept();
        draws();
        fullTexts();
    }

    private static DayTables full() {
        DayTables x = Check.land(RING);
        Check.law(x, LAW);
        return x;
    }

    private static String planned(DayTables x, int person, int tasks) {
        return x.plan(person, tasks, false) + " by " + x.plan(person, tasks, true);
    }

    private static String coins(DayTables x) {
        StringBuilder row = new StringBuilder();
        for (int person = 0; person < 8; person++) {
            row.append(person == 0 ? "" : " ").append(x.person(person, 3));
        }
        return row.toString();
    }

    private void rows() {
        s.holds(42, "0 VILLAGES, 1 PEOPLE, 2 FACTS, 3 ROADS, 4 DEBTS, 5 TASKS");
        DayTables x = full();
        s.dues("as many as can be", "6 8 8 12 8 8 7 12", () -> x.count(0), () -> x.count(1), () -> x.count(2), () -> x.count(3),
            () -> x.count(4), () -> x.count(5), () -> x.count(6), () -> x.count(7));
        s.holds(10, "who else is in the same VILLAGE, as bits");
        s.dues("the last", "5 10 96", () -> x.person(7, 0), () -> x.person(7, 3), () -> x.person(7, 6));
        s.holds(11, "Of a ROAD what 0 and 1 the VILLAGES, 2 LONG.");
        s.dues("the last", "5 0 1", () -> x.road(11, 0), () -> x.road(11, 1), () -> x.road(11, 2));
        s.holds(12, "Of a DEBT what 0 the debtor, 1 the creditor, 2 N, 3 the VILLAGE");
        s.dues("the last", "7 0 8 5 1 2 0", () -> x.debt(7, 0), () -> x.debt(7, 1), () -> x.debt(7, 2), () -> x.debt(7, 3), () -> x.debt(7, 4),
            () -> x.debt(7, 5), () -> x.debt(7, 6));
        s.holds(13, "Of a TASK what 0 the VILLAGE, 1 the DAY, 2 AFTER (NONE)");
        s.dues("the last", "5 0 6 -1 -1", () -> x.task(7, 0), () -> x.task(7, 1), () -> x.task(7, 2), () -> x.task(7, 3), () -> x.task(7, 4));
        s.holds(14, "Of a FACT the VILLAGE (day false), or the DAY.");
        s.dues("the last", "5 0", () -> x.fact(7, false), () -> x.fact(7, true));
        s.holds(15, "BARRED: some bar LINE holds");
        s.dues("by the last LINE", "1 0 0 11", () -> x.rule(7, 5, 0), () -> x.rule(7, 4, 0), () -> x.rule(7, 5, 1), () -> x.rule(7, 5, 2));
        s.holds(16, "refused, if not there, or BARRED (there, now)");
        s.dues("by the last ROAD", Sentences.STATE + " 1 1", () -> x.go(7, 11), () -> x.go(0, 11), () -> x.go(4, 4));
    }

    private void ways() {
        s.holds(21, "the least TIME, NOW's too, at which one can be there so");
        DayTables x = full();
        s.dues("by the last ROAD, BARRED now", "2 4 2", () -> x.soonest(5, 0, -1), () -> x.soonest(5, 0, 1), () -> x.soonest(7, 4, 2));
        s.dues("half way round", "3 4 3", () -> x.soonest(0, 3, -1), () -> x.soonest(5, 2, -1), () -> x.soonest(1, 4, 0));
        s.holds(22, "then the least ROAD");
        s.dues("the last ROAD", "11 11 11", () -> x.first(5, 0, -1), () -> x.first(0, 5, -1), () -> x.first(5, 0, 1));
        s.dues("either way round", "0 4", () -> x.first(0, 3, -1), () -> x.first(5, 2, -1));
        s.holds(23, "the least TIME (within 200 dawns) at which both can be in one VILLAGE");
        s.dues("the last ones", "0 5 2 0", () -> x.meeting(6, 7, false), () -> x.meeting(6, 7, true), () -> x.meeting(5, 2, false),
            () -> x.meeting(5, 2, true));
        s.holds(24, "VILLAGES in which one can be at TIME and N, as bits");
        s.dues("by 0, 1, 2, 200", "32 32 49 63", () -> x.cone(7, 0), () -> x.cone(7, 1), () -> x.cone(7, 2), () -> x.cone(7, 200));
        s.due("by 1, from VILLAGE 0", 35, () -> x.cone(0, 1));
        Check.law(x, "bar");
        s.dues("all BARRED", "-1 32", () -> x.soonest(5, 0, -1), () -> x.cone(5, 200));
        Check.law(x, "hush");
        s.dues("in place of it none BARRED", "1 11 63 1", () -> x.soonest(5, 0, -1), () -> x.first(5, 0, -1), () -> x.cone(5, 200),
            () -> x.soonest(0, 5, -1));
        Check.law(x, "bar if village > 2");
        s.dues("three VILLAGES BARRED", "-1 1 47 32 8", () -> x.soonest(5, 0, -1), () -> x.soonest(0, 5, -1), () -> x.cone(0, 200),
            () -> x.cone(7, 200), () -> x.cone(3, 200));
        Check.law(x, "bar if village < 3");
        s.dues("the other three", "61 1 2", () -> x.cone(7, 200), () -> x.cone(0, 200), () -> x.cone(1, 200));
    }

    private void warnings() {
        s.holds(25, "who is told by TIME and N, as bits, that PERSON, too");
        DayTables x = full();
        s.dues("by 0, 1, 2, 3, 200", "224 224 241 251 255", () -> x.warned(7, 0), () -> x.warned(7, 1), () -> x.warned(7, 2),
            () -> x.warned(7, 3), () -> x.warned(7, 200));
        s.dues("from VILLAGE 0, by 1, 3", "227 255", () -> x.warned(0, 1), () -> x.warned(0, 3));
        s.holds(26, "the fewest PEOPLE who must know it now");
        s.dues("by 0, 1, 200", "63 9 1", () -> x.least(0), () -> x.least(1), () -> x.least(200));
    }

    private void feastsAndPlans() {
        s.holds(35, "FEASTED by N dawns (1 to 60)");
        DayTables x = full();
        s.dues("by 1, 60", "1 20 20", () -> x.feasted(7, 1), () -> x.feasted(7, 60), () -> x.feasted(0, 60));
        s.holds(36, "(5 at most that are not done, else -3)");
        s.dues("all eight, the last three, the first five", "-3 by -3 3 by 5 13 by 0", () -> planned(x, 7, 255), () -> planned(x, 7, 224),
            () -> planned(x, 0, 31));
        s.due("the last alone, not ahead of its AFTER", "-1 by -1", () -> planned(x, 7, 128));
    }

    private void dawns() {
        s.holds(20, "how often one came to know a FACT");
        DayTables x = full();
        s.due("eight, each of THE DAY", 8, () -> x.dawns(1));
        s.due("MADE of all eight DEBTS", "14 22 22 22 22 22 22 22", () -> coins(x));
        s.dues("each knows one", "1 2 4 8 16 32 32 32", () -> x.person(0, 5), () -> x.person(1, 5), () -> x.person(2, 5), () -> x.person(3, 5),
            () -> x.person(4, 5), () -> x.person(5, 5), () -> x.person(6, 5), () -> x.person(7, 5));
        s.dues("three, and three more", "3 3", () -> x.dawns(1), () -> x.dawns(1));
        s.dues("all that comes to pass in the last VILLAGE", "224 7", () -> x.person(7, 5), () -> x.person(7, 4));
        s.due("DUE of all eight", "43 43 43 43 43 43 43 43", () -> coins(x));
        s.dues("EARNED, LOST, MISSED, rows", "264 0 0 14", () -> x.count(13), () -> x.count(14), () -> x.count(15), () -> x.count(17));
        s.holds(27, "all that is known now but for what came, by THE LOG, later");
        s.dues("the last, at TIME 0 to 3", "0 32 96 224", () -> x.knew(7, 0), () -> x.knew(7, 1), () -> x.knew(7, 2), () -> x.knew(7, 3));
        s.holds(37, "THE LOG so many ago (0 the latest)");
        s.dues("the latest, the oldest", "3 7 7 9 1 0 0 9 -1", () -> x.log(0, 0), () -> x.log(0, 1), () -> x.log(0, 2), () -> x.log(0, 3),
            () -> x.log(13, 0), () -> x.log(13, 1), () -> x.log(13, 2), () -> x.log(13, 3), () -> x.log(14, 0));
        s.holds(19, "A FACT is told by hand");
        s.dues("the last to the last but five", "true false 130", () -> x.tell(1, 7), () -> x.tell(7, 7), () -> x.person(1, 5));
        s.holds(17, "how many the other one has then");
        s.dues("the last two", "86 0 " + Sentences.STATE, () -> x.give(7, 6, 43), () -> x.person(7, 3), () -> x.give(7, 4, 1));
    }

    private void tasksDone() {
        s.holds(18, "A TASK is done: how many are.");
        DayTables x = full();
        x.dawns(1);
        s.dues("six on one DAY", "1 2 3 4 5 6", () -> x.work(0, 0), () -> x.work(1, 1), () -> x.work(2, 2), () -> x.work(3, 3), () -> x.work(4, 4),
            () -> x.work(5, 5));
        x.dawns(1);
        s.dues("the 7th", Sentences.STATE + " 7", () -> x.work(7, 7), () -> x.work(6, 6));
        s.dues("the last is left", "3 by 7 3 by 7", () -> planned(x, 7, 128), () -> planned(x, 7, 255));
        x.dawns(1);
        s.dues("all eight", "8 8 7 3", () -> x.work(7, 7), () -> x.count(16), () -> x.task(7, 3), () -> x.task(7, 4));
        s.dues("none is left", "3 by -1 " + Sentences.STATE, () -> planned(x, 7, 255), () -> x.work(7, 7));
        s.holds(18, "a TASK is done by one who is there on that DAY now");
        DayTables y = Check.land("days 3;village 0 1 2;village 0 1 2;person 1 0;task 0 0;task 1 0");
        s.dues("not by one where it is that DAY as well", Sentences.STATE + " 1", () -> y.work(0, 0), () -> y.work(0, 1));
    }

    private void tables() {
        s.holds(28, "ALIKE: two TABLES: at how many PAGES both have one DAY");
        DayTables x = full();
        s.dues("the last", "3 0", () -> x.alike(5, 4, false), () -> x.alike(0, 5, true));
        s.holds(29, "how many; the first");
        s.dues("the last", "1 2", () -> x.touch(5, 2, false), () -> x.touch(5, 2, true));
        s.holds(30, "(D, if no less)");
        s.due("the last", 3, () -> x.round(5, 2));
        s.holds(31, "VILLAGES of which the TABLE fits all");
        s.due("none told", 63, x::bread);
        Check.country(x, "misprint 5 0 1");
        Check.feed(x, Check.bytes(1, 0, 1));
        s.due("all but the last", 31, x::bread);
        s.holds(7, "THE DAY of a VILLAGE at a TIME");
        s.dues("the last", "1 0 2 1", () -> x.day(5, 0), () -> x.day(5, 1), () -> x.day(5, 2), () -> x.page(5, 0));
    }

    private void owed() {
        s.holds(34, "(at most 8 PEOPLE: by sets that are even among themselves)");
        DayTables x = full();
        s.dues("the first, the last", "7 -1 -1", () -> x.netted(0), () -> x.netted(1), () -> x.netted(7));
        s.due("payments", 7, () -> x.netted(-1));
        s.holds(33, "by how many dawns DUE is ahead of MADE");
        s.due("the last", -1, () -> x.early(7));
    }

    private void kept() {
        s.holds(39, "all is as ahead of it (but for the TAPE, fault(), THE IMAGE)");
        DayTables x = full();
        String before = Check.all(x);
        x.dawns(200);
        s.due("undone", true, x::undo);
        s.due("all of the full country", before, () -> Check.all(x));
        s.holds(41, "One goes back to THE IMAGE: true");
        DayTables y = full();
        y.dawns(1);
        y.work(5, 5);
        y.go(7, 11);
        y.image();
        String kept = Check.all(y);
        y.dawns(100);
        s.due("back", true, y::back);
        s.due("all of the full country", kept, () -> Check.all(y));
    }

    private void draws() {
        s.holds(20, "(a) If PAGE is 0: each VILLAGE, by numbers");
        DayTables x = Check.land(RING);
        x.dawns(3);
        int seed = 1;
        for (int draw = 0; draw < 6; draw++) {
            seed = 1103515245 * seed + 12345;
        }
        int six = seed;
        s.due("six DRAWS without CHANCE", six, () -> x.seed(1));
        Check.country(x, "chance 100");
        x.dawns(3);
        for (int draw = 6; draw < 18; draw++) {
            seed = 1103515245 * seed + 12345;
        }
        int eighteen = seed;
        s.due("eighteen at CHANCE 100", eighteen, () -> x.seed(1));
        for (int village = 0; village < 6; village++) {
            int v = village;
            s.due("each DAY once, VILLAGE " + v, 7, () -> 1 << x.day(v, 0) | 1 << x.day(v, 1) | 1 << x.day(v, 2));
        }
    }

    private void fullTexts() {
        s.holds(5, "SUM: PART { + PART }");
        DayTables x = Check.land(RING);
        String sum = "1" + "+1".repeat(192);
        s.due("a LINE of 400 bytes", 400, () -> ("earn 7 if 192 <" + sum).length());
        s.due("193 PARTS", 1, () -> Check.law(x, "earn 7 if 192 <" + sum));
        s.due("all PARTS count", 7, () -> x.rule(0, 0, 2));
        s.due("193 PARTS again", 1, () -> Check.law(x, "earn 7 if 193 <" + sum));
        s.due("and no more", 0, () -> x.rule(0, 0, 2));
        s.holds(5, "C: ALL { or ALL }; ALL: ATOM { and ATOM }");
        s.due("56 ATOMS", 1, () -> Check.law(x, "earn 7 if 0<1" + "and 0<1".repeat(55)));
        s.due("all hold", 7, () -> x.rule(0, 0, 2));
        s.due("the last does not", 1, () -> Check.law(x, "earn 7 if 0<1" + "and 0<1".repeat(54) + "and 1<0"));
        s.due("so they do not", 0, () -> x.rule(0, 0, 2));
        s.due("64 ALLS", 1, () -> Check.law(x, "earn 7 if 1<0" + "or 1<0".repeat(62) + "or 0<1"));
        s.due("the last holds", 7, () -> x.rule(0, 0, 2));
        s.due("none", 1, () -> Check.law(x, "earn 7 if 1<0" + "or 1<0".repeat(63)));
        s.due("none holds", 0, () -> x.rule(0, 0, 2));
        s.holds(5, "at most 6 deep");
        String deep = "0<1 and (0<1 and (0<1 and (0<1 and (0<1 and (0<1 and (1+2+3<4+5 or again))))))";
        s.due("each one within another", 1, () -> Check.law(x, "earn 7 if 1<0 or " + deep));
        s.due("holds", 7, () -> x.rule(0, 0, 2));
        s.due("each one within another, not", 1, () -> Check.law(x, "earn 7 if 1<0 or " + deep.replace("4+5", "1+5")));
        s.due("holds not", 0, () -> x.rule(0, 0, 2));
    }
}
