/** Edges of days and rows, of what people do, and of the dawns: promises 7 to 20. */
final class EdgesOfLife {
    private static final String LAND = "days 3;village 0 1 2;village 2 0 1;road 0 1 2;person 0 10;person 1 20;fact 0 1;fact 1 0;"
        + "debt 0 1 5 in 0 made 1 due 2;task 0 0;task 1 0 after 0";

    private final Sentences s;

    EdgesOfLife(Sentences s) {
        this.s = s;
    }

    void all() {
        days();
        pages();
        whens();
        asItIsNow();
        people();
        roadsAndDebts();
        tasksAndFacts();
        rules();
        settingOut();
        roadsBothWays();
        barred();
        giving();
        working();
        telling();
        refusedActs();
        dawnsAtOnce();
        misprints();
        misprintsAheadOfAll();
        arriving();
        earning();
        living();
        knowing();
        talking();
        silent();
        debts();
        debtsFull();
        debtsInOrder();
        longLife();
    }

    private static String rowOfPerson(DayTables x, int person) {
        StringBuilder row = new StringBuilder();
        for (int what = 0; what < 7; what++) {
            row.append(what == 0 ? "" : " ").append(x.person(person, what));
        }
        return row.toString();
    }

    private static String coins(DayTables x) {
        StringBuilder row = new StringBuilder();
        for (int person = 0; person < x.count(1); person++) {
            row.append(person == 0 ? "" : " ").append(x.person(person, 3));
        }
        return row.toString();
    }

    private static String table(DayTables x, int village) {
        StringBuilder row = new StringBuilder();
        for (int page = 0; page < x.count(9); page++) {
            row.append(page == 0 ? "" : " ").append(x.day(village, page));
        }
        return row.toString();
    }

    private static String logRow(DayTables x, int ago) {
        return x.log(ago, 0) + " " + x.log(ago, 1) + " " + x.log(ago, 2) + " " + x.log(ago, 3);
    }

    // ---- promises 7 to 9

    private void days() {
        DayTables x = Check.land(LAND);
        s.holds(7, "PAGE of a TIME: TIME modulo D; PRINTING: TIME by D, rounded down.");
        s.dues("the last PAGE, then the first", "2 0 1 2 0", () -> x.day(0, 2), () -> x.day(0, 3), () -> x.day(0, 4), () -> x.day(0, 5),
            () -> x.day(0, 6));
        s.holds(7, "has at that PAGE (0 the first)");
        s.dues("PAGE 0", "0 2", () -> x.day(0, 0), () -> x.day(1, 0));
        s.holds(7, "IllegalArgumentException: TIME is not 0 to 1000000.");
        s.dues("0, 1000000", "2 0", () -> x.day(1, 0), () -> x.day(1, 1000000));
        s.dues("below, above", Sentences.ARGUMENT + " " + Sentences.ARGUMENT, () -> x.day(1, -1), () -> x.day(1, 1000001));
        s.dues("far below, far above", Sentences.ARGUMENT + " " + Sentences.ARGUMENT, () -> x.day(1, Integer.MIN_VALUE),
            () -> x.day(1, Integer.MAX_VALUE));
        s.holds(7, "IndexOutOfBoundsException: there is no such VILLAGE");
        s.dues("below, above", Sentences.INDEX + " " + Sentences.INDEX, () -> x.day(-1, 0), () -> x.day(2, 0));
        s.dues("ahead of a TIME that is none", Sentences.INDEX + " " + Sentences.INDEX, () -> x.day(-1, -1), () -> x.day(2, 1000001));
        s.holds(7, "(from now, or any, by its TABLE now)");
        x.dawns(200);
        s.dues("of a TIME gone by", "0 2 1", () -> x.day(0, 0), () -> x.day(1, 0), () -> x.day(0, 1));
        DayTables six = Check.land("days 16;village 0 1 2 3 4 5 6 7 8 9 10 11 12 13 14 15;village 15 14 13 12 11 10 9 8 7 6 5 4 3 2 1 0");
        s.dues("of 16 PAGES", "15 0 0 15", () -> six.day(0, 15), () -> six.day(0, 16), () -> six.day(1, 15), () -> six.day(1, 16));
        s.due("1000000 is on PAGE 0", 0, () -> six.day(0, 1000000));
    }

    private void pages() {
        DayTables x = Check.land(LAND);
        s.holds(8, "The PAGE of a DAY in a TABLE.");
        s.dues("each", "0 1 2 1 2 0", () -> x.page(0, 0), () -> x.page(0, 1), () -> x.page(0, 2), () -> x.page(1, 0), () -> x.page(1, 1),
            () -> x.page(1, 2));
        s.holds(8, "IndexOutOfBoundsException: there is no such VILLAGE, PERSON, FACT, ROAD, DEBT, TASK, DAY.");
        s.dues("DAYS", Sentences.INDEX + " " + Sentences.INDEX, () -> x.page(0, -1), () -> x.page(0, 3));
        s.dues("VILLAGES", Sentences.INDEX + " " + Sentences.INDEX, () -> x.page(-1, 0), () -> x.page(2, 0));
        DayTables six = Check.land("days 16;village 1 2 3 4 5 6 7 8 9 10 11 12 13 14 15 0");
        s.dues("of 16", "15 14 " + Sentences.INDEX, () -> six.page(0, 0), () -> six.page(0, 15), () -> six.page(0, 16));
        DayTables seven = Check.land("village 6 5 4 3 2 1 0");
        s.dues("of 7 at first", "0 " + Sentences.INDEX, () -> seven.page(0, 6), () -> seven.page(0, 7));
    }

    private void whens() {
        DayTables x = Check.land(LAND);
        s.holds(9, "The least TIME, from one on, at which a VILLAGE has a DAY.");
        s.dues("that TIME's too", "0 2 5", () -> x.when(0, 0, 0), () -> x.when(0, 2, 2), () -> x.when(0, 2, 5));
        s.dues("the next printing's", "3 5 6", () -> x.when(0, 0, 1), () -> x.when(0, 2, 3), () -> x.when(1, 2, 4));
        x.dawns(7);
        s.due("from one on, not from now", 0, () -> x.when(0, 0, 0));
        s.holds(9, "IllegalArgumentException: TIME is not 0 to 1000000.");
        s.dues("up to it", "1000000 1000001 1000002", () -> x.when(0, 1, 1000000), () -> x.when(0, 2, 1000000), () -> x.when(0, 0, 1000000));
        s.dues("above, below", Sentences.ARGUMENT + " " + Sentences.ARGUMENT, () -> x.when(0, 1, 1000001), () -> x.when(0, 1, -1));
        s.holds(9, "Of several exceptions the one told first is thrown");
        s.dues("no VILLAGE", Sentences.INDEX + " " + Sentences.INDEX, () -> x.when(2, 0, -1), () -> x.when(-1, 0, 1000001));
        s.dues("no DAY", Sentences.INDEX + " " + Sentences.INDEX, () -> x.when(0, 3, -1), () -> x.when(0, -1, 1000001));
    }

    private void asItIsNow() {
        s.holds(7, "what its TABLE (as it is now) has at that PAGE");
        DayTables x = Check.land(LAND, "misprint 0 0 2");
        s.dues("by a text", "2 1 0 2", () -> x.day(0, 0), () -> x.day(0, 1), () -> x.day(0, 2), () -> x.day(0, 3));
        s.dues("PAGE and TIME too", "2 5", () -> x.page(0, 0), () -> x.when(0, 0, 3));
    }

    // ---- promises 10 to 15

    private void people() {
        s.holds(10, "Of a PERSON what 0 WHERE (NONE, if ON A ROAD), 1 whither (NONE), 2 at which TIME there (NONE)");
        DayTables x = Check.land(LAND);
        s.due("in a VILLAGE", "0 -1 -1 10 0 0 0", () -> rowOfPerson(x, 0));
        x.go(0, 0);
        s.due("ON A ROAD", "-1 1 2 10 0 0 0", () -> rowOfPerson(x, 0));
        x.dawns(2);
        s.due("there", "1 -1 -1", () -> rowOfPerson(x, 0).substring(0, 7));
        s.holds(10, "6 who else is in the same VILLAGE, as bits (0, if ON A ROAD)");
        DayTables y = Check.land("days 3;village 0 1 2;village 0 1 2;road 0 1 1;road 0 1 1",
            "person 0 0;person 0 1;person 0 2;person 0 3;person 0 4;person 0 5;person 0 6;person 0 9999");
        s.dues("all eight", "254 253 127", () -> y.person(0, 6), () -> y.person(1, 6), () -> y.person(7, 6));
        y.go(0, 0);
        y.go(7, 0);
        y.go(6, 1);
        s.dues("three on roads", "0 0 0 60 30", () -> y.person(0, 6), () -> y.person(7, 6), () -> y.person(6, 6), () -> y.person(1, 6),
            () -> y.person(5, 6));
        y.dawns(1);
        s.dues("three there", "192 65", () -> y.person(0, 6), () -> y.person(7, 6));
        s.holds(10, "COINS 0 to 9999");
        s.dues("none, the most", "0 9999", () -> y.person(0, 3), () -> y.person(7, 3));
        s.holds(10, "LIVED: DAYS, as bits (none at first)");
        DayTables z = Check.land("days 16;village 0 1 2 3 4 5 6 7 8 9 10 11 12 13 14 15;person 0 0");
        s.due("none", 0, () -> z.person(0, 4));
        z.dawns(15);
        s.due("all but the first", 65534, () -> z.person(0, 4));
        z.dawns(1);
        s.due("all", 65535, () -> z.person(0, 4));
        z.dawns(1);
        s.due("all, once more", 65535, () -> z.person(0, 4));
        s.holds(10, "KNOWS: FACTS, as bits (none at first)");
        DayTables w = Check.land("days 3;village 0 1 2;fact 0 0;fact 0 0;fact 0 0;fact 0 0;fact 0 0;fact 0 0;fact 0 0;fact 0 2;person 0 0");
        s.due("none", 0, () -> w.person(0, 5));
        w.dawns(2);
        s.due("the last", 128, () -> w.person(0, 5));
        w.dawns(1);
        s.due("all", 255, () -> w.person(0, 5));
        s.holds(10, "NoSuchElementException: another what.");
        s.dues("below, above", Sentences.ELEMENT + " " + Sentences.ELEMENT, () -> x.person(0, -1), () -> x.person(0, 7));
        s.dues("of nobody", Sentences.INDEX + " " + Sentences.INDEX, () -> x.person(-1, -1), () -> x.person(2, 7));
    }

    private void roadsAndDebts() {
        DayTables x = Check.land(LAND);
        s.holds(11, "Of a ROAD what 0 and 1 the VILLAGES, 2 LONG. NoSuchElementException: another what.");
        s.dues("each", "0 1 2", () -> x.road(0, 0), () -> x.road(0, 1), () -> x.road(0, 2));
        s.dues("below, above", Sentences.ELEMENT + " " + Sentences.ELEMENT, () -> x.road(0, -1), () -> x.road(0, 3));
        s.dues("no such ROAD", Sentences.INDEX + " " + Sentences.INDEX, () -> x.road(-1, -1), () -> x.road(1, 3));
        s.holds(11, "ROADS (at most 12, numbered from 0 on): between two VILLAGES, both ways, LONG 1 to 5 dawns.");
        DayTables y = Check.land("days 3;village 0 1 2;village 0 1 2;road 0 1 1;road 1 0 5;road 0 1 2;road 0 1 2;road 0 1 2;road 0 1 2",
            "road 0 1 2;road 0 1 2;road 0 1 2;road 0 1 2;road 0 1 2;road 1 0 3");
        s.dues("as told", "0 1 1 1 0 5 1 0 3", () -> y.road(0, 0), () -> y.road(0, 1), () -> y.road(0, 2), () -> y.road(1, 0),
            () -> y.road(1, 1), () -> y.road(1, 2), () -> y.road(11, 0), () -> y.road(11, 1), () -> y.road(11, 2));
        s.due("no 13th", Sentences.INDEX, () -> y.road(12, 0));
        s.holds(12, "Of a DEBT what 0 the debtor, 1 the creditor, 2 N, 3 the VILLAGE, 4 MADE, 5 DUE, 6 MISSED so far.");
        s.dues("each", "0 1 5 0 1 2 0", () -> x.debt(0, 0), () -> x.debt(0, 1), () -> x.debt(0, 2), () -> x.debt(0, 3), () -> x.debt(0, 4),
            () -> x.debt(0, 5), () -> x.debt(0, 6));
        s.dues("another what", Sentences.ELEMENT + " " + Sentences.ELEMENT, () -> x.debt(0, -1), () -> x.debt(0, 7));
        s.dues("no such DEBT", Sentences.INDEX + " " + Sentences.INDEX, () -> x.debt(-1, -1), () -> x.debt(1, 7));
        s.holds(12, "N 1 to 999");
        DayTables z = Check.land("days 3;village 0 1 2;person 0 0;person 0 0;debt 0 1 1 in 0 made 0 due 2;debt 1 0 999 in 0 made 2 due 0");
        s.dues("the least, the most", "1 999 1 0", () -> z.debt(0, 2), () -> z.debt(1, 2), () -> z.debt(1, 0), () -> z.debt(1, 1));
    }

    private void tasksAndFacts() {
        DayTables x = Check.land(LAND);
        s.holds(13, "Of a TASK what 0 the VILLAGE, 1 the DAY, 2 AFTER (NONE), 3 who did it (NONE), 4 at which TIME (NONE).");
        s.dues("the first", "0 0 -1 -1 -1", () -> x.task(0, 0), () -> x.task(0, 1), () -> x.task(0, 2), () -> x.task(0, 3), () -> x.task(0, 4));
        s.dues("the second", "1 0 0 -1 -1", () -> x.task(1, 0), () -> x.task(1, 1), () -> x.task(1, 2), () -> x.task(1, 3), () -> x.task(1, 4));
        x.dawns(3);
        x.work(0, 0);
        x.dawns(1);
        x.work(1, 1);
        s.dues("done", "0 3 1 4", () -> x.task(0, 3), () -> x.task(0, 4), () -> x.task(1, 3), () -> x.task(1, 4));
        s.dues("another what", Sentences.ELEMENT + " " + Sentences.ELEMENT, () -> x.task(0, -1), () -> x.task(0, 5));
        s.dues("no such TASK", Sentences.INDEX + " " + Sentences.INDEX, () -> x.task(-1, -1), () -> x.task(2, 5));
        s.holds(14, "Of a FACT the VILLAGE (day false), or the DAY.");
        s.dues("each", "0 1 1 0", () -> x.fact(0, false), () -> x.fact(0, true), () -> x.fact(1, false), () -> x.fact(1, true));
        s.dues("no such FACT", Sentences.INDEX + " " + Sentences.INDEX, () -> x.fact(-1, true), () -> x.fact(2, false));
    }

    private void rules() {
        s.holds(15, "Of a PERSON in a VILLAGE (as if there) now");
        DayTables x = Check.land(LAND);
        Check.law(x, "bar if village > 0;hush if day > 1;earn 7 if day < 2 and village > 0");
        s.dues("elsewhere", "1 1 0", () -> x.rule(0, 1, 0), () -> x.rule(0, 1, 1), () -> x.rule(0, 1, 2));
        s.dues("there", "0 0 0", () -> x.rule(0, 0, 0), () -> x.rule(0, 0, 1), () -> x.rule(0, 0, 2));
        x.go(0, 0);
        s.dues("ON A ROAD", "1 0", () -> x.rule(0, 1, 0), () -> x.rule(0, 0, 0));
        x.dawns(1);
        s.dues("now is a dawn later", "1 0 7", () -> x.rule(0, 1, 0), () -> x.rule(0, 1, 1), () -> x.rule(0, 1, 2));
        s.holds(15, "printing: of that TIME");
        Check.law(x, "earn 1 if page > 1;earn 10 if printing > 0;earn 20 if printing > 1");
        s.due("TIME 1", 0, () -> x.rule(0, 0, 2));
        for (int time = 2; time <= 6; time++) {
            x.dawns(1);
            int want = (time % 3 == 2 ? 1 : 0) + (time >= 3 ? 10 : 0) + (time >= 6 ? 20 : 0);
            s.due("TIME " + time, want, () -> x.rule(0, 0, 2));
        }
        s.holds(15, "NoSuchElementException: another what.");
        s.dues("below, above", Sentences.ELEMENT + " " + Sentences.ELEMENT, () -> x.rule(0, 0, -1), () -> x.rule(0, 0, 3));
        s.dues("no PERSON", Sentences.INDEX + " " + Sentences.INDEX, () -> x.rule(-1, 0, -1), () -> x.rule(2, 0, 3));
        s.dues("no VILLAGE", Sentences.INDEX + " " + Sentences.INDEX, () -> x.rule(0, -1, -1), () -> x.rule(0, 2, 3));
        s.holds(15, "EARNS: the sum of N of all earn LINES that hold");
        DayTables y = Check.land("days 3;village 0 1 2;person 0 9999");
        Check.law(y, "earn 99;earn 99;earn 0;earn 1");
        s.due("also of one who can have no more", 199, () -> y.rule(0, 0, 2));
    }

    // ---- promises 16 to 19

    private void settingOut() {
        s.holds(16, "ON A ROAD to the other one, there at TIME and LONG; refused, if not there, or BARRED (there, now).");
        DayTables x = Check.land("days 3;village 0 1 2;village 0 1 2;village 0 1 2;road 0 1 1;road 1 2 5;person 0 0;person 1 0");
        x.dawns(4);
        s.dues("the shortest, the longest", "5 9", () -> x.go(0, 0), () -> x.go(1, 1));
        s.dues("ON A ROAD already", Sentences.STATE + " " + Sentences.STATE, () -> x.go(0, 0), () -> x.go(1, 0));
        x.dawns(1);
        s.due("not from there", Sentences.STATE, () -> Check.land("days 3;village 0 1 2;village 0 1 2;village 0 1 2;road 1 2 1;person 0 0")
            .go(0, 0));
        s.due("on", 10, () -> x.go(0, 1));
        x.dawns(3);
        s.dues("a dawn too soon", "-1 2 9", () -> x.person(1, 0), () -> x.person(1, 1), () -> x.person(1, 2));
        x.dawns(1);
        s.dues("there", "2 -1 -1", () -> x.person(1, 0), () -> x.person(1, 1), () -> x.person(1, 2));
        s.holds(16, "IndexOutOfBoundsException: there is no such VILLAGE, PERSON, FACT, ROAD, DEBT, TASK, DAY.");
        s.dues("no PERSON", Sentences.INDEX + " " + Sentences.INDEX, () -> x.go(-1, 0), () -> x.go(2, 0));
        s.dues("no ROAD", Sentences.INDEX + " " + Sentences.INDEX, () -> x.go(0, -1), () -> x.go(0, 2));
    }

    private void roadsBothWays() {
        s.holds(16, "between two VILLAGES, both ways");
        DayTables x = Check.land("days 3;village 0 1 2;village 0 1 2;road 1 0 2;person 0 0;person 1 0");
        s.dues("from either end", "2 2", () -> x.go(0, 0), () -> x.go(1, 0));
        s.dues("to the other one", "1 0", () -> x.person(0, 1), () -> x.person(1, 1));
        x.dawns(2);
        s.dues("and back", "4 4 0 1", () -> x.go(0, 0), () -> x.go(1, 0), () -> x.person(0, 1), () -> x.person(1, 1));
    }

    private void barred() {
        s.holds(16, "BARRED (there, now)");
        DayTables x = Check.land("days 3;village 0 1 2;village 2 0 1;road 0 1 1;person 0 0;person 1 0");
        Check.law(x, "bar if village > 0");
        s.dues("there, not where one goes", "1 " + Sentences.STATE, () -> x.go(0, 0), () -> x.go(1, 0));
        DayTables y = Check.land("days 3;village 0 1 2;village 2 0 1;road 0 1 1;person 0 0;person 1 0;person 1 0");
        Check.law(y, "bar if day < 1");
        s.dues("now, by THE DAY there", Sentences.STATE + " 1", () -> y.go(0, 0), () -> y.go(1, 0));
        y.dawns(1);
        s.dues("by that of the next dawn", "2 " + Sentences.STATE, () -> y.go(0, 0), () -> y.go(2, 0));
        s.holds(16, "IllegalStateException: it is refused.");
        s.due("no act by these", 3, () -> y.count(19));
        s.due("nor does one set out", 1, () -> y.person(2, 0));
    }

    private void giving() {
        s.holds(17, "IllegalArgumentException: they are not 1 to 9999, or both are one");
        DayTables x = Check.land("days 3;village 0 1 2;village 0 1 2;road 0 1 1;person 0 9999;person 0 0;person 1 5;person 0 1");
        String two = Sentences.ARGUMENT + " " + Sentences.ARGUMENT;
        s.dues("0, 10000", two, () -> x.give(0, 1, 0), () -> x.give(0, 1, 10000));
        s.dues("far", two, () -> x.give(0, 1, Integer.MIN_VALUE), () -> x.give(0, 1, Integer.MAX_VALUE));
        s.dues("both are one", two, () -> x.give(0, 0, 1), () -> x.give(1, 1, 1));
        s.dues("1, 9998", "1 9999", () -> x.give(0, 1, 1), () -> x.give(0, 1, 9998));
        s.due("9999", 9999, () -> x.give(1, 0, 9999));
        s.holds(17, "IllegalStateException: not in one VILLAGE, not so many, or the other one would have more than 9999.");
        s.due("none left", Sentences.STATE, () -> x.give(1, 0, 1));
        s.due("one too many for the other one", Sentences.STATE, () -> x.give(3, 0, 1));
        s.due("more than one has", Sentences.STATE, () -> x.give(3, 1, 2));
        s.due("all that one has", 1, () -> x.give(3, 1, 1));
        s.dues("not in one VILLAGE", Sentences.STATE + " " + Sentences.STATE, () -> x.give(0, 2, 1), () -> x.give(2, 1, 1));
        s.due("up to 9999", 9999, () -> {
            x.give(0, 1, 1);
            return x.give(1, 0, 1);
        });
        s.holds(17, "COINS are given by one to another one (in one VILLAGE, not ON A ROAD)");
        x.go(0, 0);
        x.go(1, 0);
        s.dues("both on one ROAD", Sentences.STATE + " " + Sentences.STATE, () -> x.give(0, 1, 1), () -> x.give(1, 0, 1));
        s.dues("one of them", Sentences.STATE + " " + Sentences.STATE, () -> x.give(0, 3, 1), () -> x.give(0, 2, 1));
        s.holds(17, "Of several exceptions the one told first is thrown");
        String both = Sentences.INDEX + " " + Sentences.INDEX;
        s.dues("no PERSON gives", both, () -> x.give(-1, 0, 0), () -> x.give(4, 2, 1));
        s.dues("to no PERSON", both, () -> x.give(0, -1, 1), () -> x.give(0, 4, 10000));
        s.dues("both are the same that there is not", both, () -> x.give(-1, -1, 0), () -> x.give(4, 4, 1));
        s.dues("both are one, ON A ROAD; none, elsewhere", two, () -> x.give(0, 0, 1), () -> x.give(0, 2, 0));
    }

    private void working() {
        s.holds(18, "a TASK is done by one who is there on that DAY now (each once; AFTER done)");
        DayTables x = Check.land("days 3;village 0 1 2;village 1 0 2;road 0 1 1;person 0 0;person 1 0;person 0 0",
            "task 0 0;task 0 0 after 0;task 0 1 after 1;task 1 1");
        s.due("not there", Sentences.STATE, () -> x.work(1, 0));
        s.due("AFTER not done", Sentences.STATE, () -> x.work(0, 1));
        s.due("there on that DAY", 1, () -> x.work(0, 0));
        s.dues("each once", Sentences.STATE + " " + Sentences.STATE, () -> x.work(0, 0), () -> x.work(2, 0));
        s.due("AFTER done, by another one", 2, () -> x.work(2, 1));
        s.due("not on that DAY yet", Sentences.STATE, () -> x.work(0, 2));
        s.due("another VILLAGE has that DAY", 3, () -> x.work(1, 3));
        x.dawns(1);
        s.due("on that DAY", 4, () -> x.work(0, 2));
        s.due("all done", Sentences.STATE, () -> x.work(0, 2));
        DayTables y = Check.land("days 3;village 0 1 2;village 0 1 2;road 0 1 3;person 0 0;task 0 1;task 1 1;task 0 0");
        y.go(0, 0);
        y.dawns(1);
        s.dues("ON A ROAD", Sentences.STATE + " " + Sentences.STATE, () -> y.work(0, 0), () -> y.work(0, 1));
        s.holds(18, "IndexOutOfBoundsException: there is no such VILLAGE, PERSON, FACT, ROAD, DEBT, TASK, DAY.");
        s.dues("no PERSON", Sentences.INDEX + " " + Sentences.INDEX, () -> x.work(-1, 0), () -> x.work(3, 0));
        s.dues("no TASK", Sentences.INDEX + " " + Sentences.INDEX, () -> x.work(0, -1), () -> x.work(0, 4));
    }

    private void telling() {
        s.holds(19, "A FACT is told by hand (by nobody: 8 in THE LOG): whether it is new.");
        DayTables x = Check.land(LAND);
        s.dues("new, not new", "true false 1", () -> x.tell(1, 0), () -> x.tell(1, 0), () -> x.count(17));
        s.due("THE LOG", "0 1 0 8", () -> logRow(x, 0));
        x.dawns(1);
        s.due("by hand at a later TIME", true, () -> x.tell(0, 1));
        s.due("THE LOG then", "1 0 1 8", () -> logRow(x, 0));
        s.due("not new, as it was of THE DAY", false, () -> x.tell(0, 0));
        s.holds(19, "a FACT is told to one by hand (each also if it changes nothing)");
        DayTables y = Check.land(LAND);
        y.tell(0, 0);
        y.tell(0, 0);
        s.due("both are acts", 2, () -> y.count(19));
        s.dues("undone one by one", "true 1 true 0 false", y::undo, () -> y.person(0, 5), y::undo, () -> y.person(0, 5), y::undo);
        s.holds(19, "IndexOutOfBoundsException: there is no such VILLAGE, PERSON, FACT, ROAD, DEBT, TASK, DAY.");
        s.dues("no PERSON", Sentences.INDEX + " " + Sentences.INDEX, () -> x.tell(-1, 0), () -> x.tell(2, 0));
        s.dues("no FACT", Sentences.INDEX + " " + Sentences.INDEX, () -> x.tell(0, -1), () -> x.tell(0, 2));
    }

    private void refusedActs() {
        s.holds(16, "a call that throws changes nothing but the TAPE, where it is used up");
        for (int call = 0; call < 16; call++) {
            int one = call;
            DayTables x = Check.land(LAND);
            Check.law(x, "bar");
            x.tell(0, 1);
            String before = Check.all(x);
            s.due("call " + one + " throws", true, () -> Check.said(() -> refused(x, one)).startsWith("throws."));
            s.due("nothing by call " + one, before, () -> Check.all(x));
            s.due("no act by call " + one, 1, () -> x.count(19));
        }
    }

    private static int refused(DayTables x, int call) {
        switch (call) {
            case 0: return x.go(0, 0);
            case 1: return x.go(0, 1);
            case 2: return x.give(0, 1, 1);
            case 3: return x.give(0, 0, 1);
            case 4: return x.give(0, 1, 0);
            case 5: return x.give(0, 2, 1);
            case 6: return x.work(1, 0);
            case 7: return x.work(1, 1);
            case 8: return x.work(0, 2);
            case 9: return x.tell(0, 2) ? 1 : 0;
            case 10: return x.tell(2, 0) ? 1 : 0;
            case 11: return x.dawns(0);
            case 12: return x.dawns(201);
            case 13: return x.rule(0, 0, 3);
            case 14: return x.knew(0, -1);
            default: return x.log(0, 4);
        }
    }

    // ---- promise 20

    private void dawnsAtOnce() {
        s.holds(20, "So many DAWNS more (1 to 200): how often one came to know a FACT. IllegalArgumentException: they are none.");
        DayTables x = Check.land("days 3;village 0 1 2;village 0 1 2;person 0 0;person 0 0;person 1 0;fact 0 1;fact 1 2;fact 1 0");
        String two = Sentences.ARGUMENT + " " + Sentences.ARGUMENT;
        s.dues("0, 201", two, () -> x.dawns(0), () -> x.dawns(201));
        s.dues("far", two, () -> x.dawns(Integer.MIN_VALUE), () -> x.dawns(Integer.MAX_VALUE));
        s.due("no TIME by these", 0, () -> x.count(8));
        s.due("one: both in VILLAGE 0", 2, () -> x.dawns(1));
        x.tell(0, 2);
        s.due("one of THE DAY, one by another", 2, () -> x.dawns(1));
        s.due("200", 1, () -> x.dawns(200));
        s.due("TIME", 202, () -> x.count(8));
        s.due("200 more", 0, () -> x.dawns(200));
        s.holds(20, "A DAWN more: TIME is 1 more.");
        s.due("TIME", 402, () -> x.count(8));
    }

    private static int next(int seed) {
        return (int) (1103515245L * seed + 12345L);
    }

    private static int drawn(int seed) {
        return (int) ((seed & 0xFFFFFFFFL) / 65536 % 32768);
    }

    /** The least SEED of which the first DRAW, modulo 100, is this, and the next two tell such PAGES of D 3. */
    private static int seedOf(int percent, int one, int other) {
        for (int seed = 0; ; seed++) {
            int first = next(seed);
            int second = next(first);
            if (drawn(first) % 100 == percent && drawn(second) % 3 == one && drawn(next(second)) % 3 == other) {
                return seed;
            }
        }
    }

    /** The TABLE of one VILLAGE of D 3, and whether one DRAW was made or three, behind the third dawn. */
    private static String printed(int chance, int seed) {
        DayTables x = Check.land("days 3;village 0 1 2;chance " + chance);
        x.seed(seed);
        x.dawns(2);
        String before = table(x, 0);
        x.dawns(1);
        int then = x.seed(0);
        int one = next(seed);
        int draws = then == one ? 1 : then == next(next(one)) ? 3 : -9;
        return before + ", " + table(x, 0) + ", " + draws;
    }

    private void misprints() {
        s.holds(20, "(a) If PAGE is 0: each VILLAGE, by numbers: DRAW modulo 100 below CHANCE");
        s.due("0 is not below 0", "0 1 2, 0 1 2, 1", () -> printed(0, seedOf(0, 0, 1)));
        s.due("0 is below 1", "0 1 2, 1 0 2, 3", () -> printed(1, seedOf(0, 0, 1)));
        s.due("1 is not below 1", "0 1 2, 0 1 2, 1", () -> printed(1, seedOf(1, 0, 1)));
        s.due("49 is below 50", "0 1 2, 2 1 0, 3", () -> printed(50, seedOf(49, 0, 2)));
        s.due("50 is not below 50", "0 1 2, 0 1 2, 1", () -> printed(50, seedOf(50, 0, 2)));
        s.due("98 is below 99", "0 1 2, 0 2 1, 3", () -> printed(99, seedOf(98, 2, 1)));
        s.due("99 is not below 99", "0 1 2, 0 1 2, 1", () -> printed(99, seedOf(99, 2, 1)));
        s.due("99 is below 100", "0 1 2, 0 2 1, 3", () -> printed(100, seedOf(99, 2, 1)));
        s.holds(20, "DRAW modulo D and DRAW modulo D (drawn in this order), change their DAYS");
        s.due("one PAGE twice", "0 1 2, 0 1 2, 3", () -> printed(100, seedOf(7, 1, 1)));
        s.due("the first and the last", "0 1 2, 2 1 0, 3", () -> printed(100, seedOf(7, 2, 0)));
        s.holds(20, "SEED is 1103515245 times SEED and 12345, as an int that goes round; bits 16 to 30 (SEED 1 at first)");
        DayTables x = Check.land("days 3;village 0 1 2;village 0 1 2;village 0 1 2");
        x.dawns(3);
        int third = next(next(next(1)));
        s.due("each VILLAGE draws", third, () -> x.seed(Integer.MAX_VALUE));
        x.dawns(2);
        s.due("not on another PAGE", Integer.MAX_VALUE, () -> x.seed(Integer.MIN_VALUE));
        x.dawns(1);
        s.due("on PAGE 0 again", next(next(next(Integer.MIN_VALUE))), () -> x.seed(1));
        DayTables empty = new DayTables();
        empty.dawns(200);
        s.due("no VILLAGE, no DRAW", 1, () -> empty.seed(0));
        for (int seed = -3; seed < 40; seed++) {
            int from = seed * 71234567;
            int one = next(from);
            int two = next(one);
            int three = next(two);
            int a = drawn(two) % 16;
            int b = drawn(three) % 16;
            DayTables y = Check.land("days 16;chance 100;village 0 1 2 3 4 5 6 7 8 9 10 11 12 13 14 15");
            y.seed(from);
            y.dawns(16);
            s.due("of 16 PAGES, SEED " + from, b + " " + a + " " + three, () -> y.day(0, a) + " " + y.day(0, b) + " " + y.seed(0));
        }
        DayTables z = Check.land("days 3;village 0 1 2;village 0 1 2;chance 50");
        int skip = seedOf(50, 0, 1);
        int second = next(skip);
        boolean misprinted = drawn(next(second)) % 100 < 50;
        z.seed(skip);
        z.dawns(3);
        s.due("VILLAGE 0 draws ahead of VILLAGE 1", "0 1 2", () -> table(z, 0));
        s.due("VILLAGE 1 draws behind one DRAW", misprinted ? next(next(next(second))) : next(second), () -> z.seed(0));
    }

    private void misprintsAheadOfAll() {
        s.holds(20, "TIME is 1 more. (a) If PAGE is 0");
        DayTables x = Check.land("days 3;village 0 1 2;chance 100;person 0 0;person 0 9;fact 0 2;fact 0 0;debt 0 1 3 in 0 made 2 due 1");
        x.seed(seedOf(5, 0, 2));
        x.dawns(2);
        s.dues("by the TABLE of the first printing", "6 1 3 6", () -> x.person(0, 4), () -> x.person(0, 5), () -> x.person(0, 3),
            () -> x.person(1, 3));
        x.dawns(1);
        s.due("the TABLE of the second", "2 1 0", () -> table(x, 0));
        s.dues("THE DAY that is lived on PAGE 0 is the misprinted one", "6 1", () -> x.person(0, 4), () -> x.person(0, 5));
        s.dues("DEBTS too", "6 3", () -> x.person(0, 3), () -> x.person(1, 3));
    }

    private void arriving() {
        s.holds(20, "(b) Whoever is to be there at TIME is in that VILLAGE.");
        DayTables x = Check.land("days 3;village 0 1 2;village 0 1 2;road 0 1 5;road 0 1 1;person 0 0;person 0 0;person 0 0;fact 1 2;fact 1 1");
        Check.law(x, "earn 1");
        x.go(0, 0);
        x.go(1, 1);
        x.dawns(1);
        s.dues("one there, one not", "-1 1 0", () -> x.person(0, 0), () -> x.person(1, 0), () -> x.person(2, 0));
        s.dues("who is there earns, lives, knows", "1 2 2", () -> x.person(1, 3), () -> x.person(1, 4), () -> x.person(1, 5));
        s.dues("who is not does not", "0 0 0", () -> x.person(0, 3), () -> x.person(0, 4), () -> x.person(0, 5));
        x.dawns(3);
        s.dues("a dawn too soon", "-1 1 5 0 0 0 0", () -> x.person(0, 0), () -> x.person(0, 1), () -> x.person(0, 2), () -> x.person(0, 3),
            () -> x.person(0, 4), () -> x.person(0, 5), () -> x.person(0, 6));
        s.due("there", 2, () -> x.dawns(1));
        s.dues("there", "1 -1 -1 1 4 3 2", () -> x.person(0, 0), () -> x.person(0, 1), () -> x.person(0, 2), () -> x.person(0, 3),
            () -> x.person(0, 4), () -> x.person(0, 5), () -> x.person(0, 6));
        DayTables y = Check.land("days 3;village 0 1 2;village 0 1 2;road 0 1 5;person 0 0");
        y.go(0, 0);
        y.dawns(200);
        s.dues("within many dawns of one call", "1 7", () -> y.person(0, 0), () -> y.person(0, 4));
    }

    private void earning() {
        s.holds(20, "EARNS (by all as it is now; 9999 at most: what is above is LOST)");
        String land = "days 3;village 0 1 2;person 0 9990;person 0 9900;person 0 9999";
        DayTables x = Check.land(land);
        Check.law(x, "earn 9");
        x.dawns(1);
        s.due("just to 9999, and far below", "9999 9909 9999", () -> coins(x));
        s.dues("EARNED, LOST", "18 9", () -> x.count(13), () -> x.count(14));
        Check.law(x, "earn 90");
        x.dawns(1);
        s.due("9999", "9999 9999 9999", () -> coins(x));
        s.dues("EARNED, LOST", "108 189", () -> x.count(13), () -> x.count(14));
        DayTables y = Check.land(land);
        Check.law(y, "earn 10 if person < 1;earn 99 if person > 0 and person < 2;earn 1 if person > 1");
        y.dawns(1);
        s.due("one above", "9999 9999 9999", () -> coins(y));
        s.dues("EARNED, LOST", "108 2", () -> y.count(13), () -> y.count(14));
        s.holds(20, "COINS told and EARNED (without LOST) are COINS of all.");
        s.dues("COINS", "29997 29889 true", () -> y.count(11), () -> y.count(12), () -> y.count(11) == y.count(12) + y.count(13));
        s.holds(20, "by all as it is now; 9999 at most");
        DayTables z = Check.land("days 3;village 0 1 2;person 0 0");
        Check.law(z, "earn 5 if coins < 1;earn 7 if coins > 0");
        z.dawns(1);
        s.due("by COINS ahead of it", 5, () -> z.person(0, 3));
        z.dawns(1);
        s.due("by COINS of the dawn ahead", 12, () -> z.person(0, 3));
        DayTables none = Check.land("days 3;village 0 1 2;person 0 0");
        none.dawns(3);
        Check.law(none, "bar;hush");
        none.dawns(3);
        s.dues("nothing without an earn LINE", "0 0", () -> none.person(0, 3), () -> none.count(13));
    }

    private void living() {
        s.holds(20, "then THE DAY is LIVED; then all FACTS of that VILLAGE and DAY are known");
        DayTables x = Check.land("days 3;village 0 1 2;person 0 0;fact 0 1;fact 0 1");
        Check.law(x, "earn 1 if again;earn 10 if lived < 1;earn 20 if known > 0");
        x.dawns(1);
        s.dues("EARNS ahead of both", "10 2 3", () -> x.person(0, 3), () -> x.person(0, 4), () -> x.person(0, 5));
        x.dawns(1);
        s.due("known from the dawn ahead", 30, () -> x.person(0, 3));
        x.dawns(2);
        s.due("the DAY again", 30 + 20 + 21, () -> x.person(0, 3));
        s.holds(20, "of one dawn first all of (c), then all of (d), by PEOPLE, then by FACTS");
        DayTables y = Check.land("days 3;village 0 1 2;village 0 1 2;person 0 0;person 1 0;person 0 0;fact 0 1;fact 1 1;fact 0 1;fact 0 2");
        y.tell(2, 3);
        s.due("dawns", 5 + 1, () -> y.dawns(1));
        String[] rows = {"1 0 3 2", "1 2 2 9", "1 2 0 9", "1 1 1 9", "1 0 2 9", "1 0 0 9", "0 2 3 8", "-1 -1 -1 -1"};
        for (int i = 0; i < rows.length; i++) {
            int ago = i;
            s.due("row " + ago, rows[ago], () -> logRow(y, ago));
        }
    }

    private void knowing() {
        s.holds(20, "(the least number of those who told it; 9: of THE DAY itself)");
        DayTables x = Check.land("days 3;village 0 1 2;person 0 0;person 0 0;person 0 0;person 0 0;fact 0 0;fact 0 1");
        x.tell(2, 0);
        x.tell(3, 0);
        s.due("four of THE DAY, two told", 6, () -> x.dawns(1));
        s.dues("each by the least who knew it behind (c)", "1 1 0 2,1 0 0 2,1 3 1 9", () -> logRow(x, 0) + "," + logRow(x, 1) + ","
            + logRow(x, 2));
        DayTables y = Check.land("days 3;village 0 1 2;person 0 0;person 0 0;person 0 0;person 0 0;fact 0 0;fact 0 1");
        y.tell(2, 0);
        y.tell(3, 0);
        Check.law(y, "hush if person > 1 and person < 3");
        y.dawns(1);
        s.dues("the least who is not SILENT", "1 1 0 3,1 0 0 3", () -> logRow(y, 0) + "," + logRow(y, 1));
        DayTables z = Check.land("days 3;village 0 1 2;person 0 0;person 0 0;person 0 0;person 0 0;person 0 0;person 0 0;person 0 0;person 0 0;"
            + "fact 0 0");
        z.tell(7, 0);
        z.dawns(1);
        s.dues("by the last of eight", "1 6 0 7,1 0 0 7", () -> logRow(z, 0) + "," + logRow(z, 6));
    }

    private void talking() {
        s.holds(20, "(d) In each VILLAGE all who are there come to know what each of these who is not SILENT");
        DayTables x = Check.land("days 3;village 0 1 2;village 0 1 2;road 0 1 1;road 0 1 2;person 0 0;person 0 0;person 1 0;person 0 0;"
            + "person 0 0;fact 0 0;fact 1 0");
        x.tell(0, 0);
        x.tell(2, 1);
        x.go(3, 1);
        x.tell(3, 1);
        x.go(4, 1);
        s.due("one hears", 1, () -> x.dawns(1));
        s.dues("there, elsewhere, ON A ROAD with one who knows", "1 1 2 2 0", () -> x.person(0, 5), () -> x.person(1, 5), () -> x.person(2, 5),
            () -> x.person(3, 5), () -> x.person(4, 5));
        s.due("those who come hear at once", 1, () -> x.dawns(1));
        s.dues("there now", "2 2", () -> x.person(3, 5), () -> x.person(4, 5));
        x.go(0, 0);
        s.due("who comes tells three, and is told one", 4, () -> x.dawns(1));
        s.dues("each", "3 1 3 3 3", () -> x.person(0, 5), () -> x.person(1, 5), () -> x.person(2, 5), () -> x.person(3, 5), () -> x.person(4, 5));
    }

    private void silent() {
        s.holds(20, "who is not SILENT (by all as it is behind (c)) knew behind (c)");
        String land = "days 3;village 0 1 2;person 0 0;person 0 0;fact 0 0;fact 0 0;fact 0 1";
        DayTables x = Check.land(land);
        x.tell(0, 0);
        x.tell(1, 1);
        Check.law(x, "hush if known > 2");
        x.dawns(1);
        s.dues("not by what comes in (d)", "7 7", () -> x.person(0, 5), () -> x.person(1, 5));
        DayTables y = Check.land(land);
        y.tell(0, 0);
        y.tell(1, 1);
        Check.law(y, "hush if known > 1");
        y.dawns(1);
        s.dues("by what comes in (c)", "5 6", () -> y.person(0, 5), () -> y.person(1, 5));
        DayTables z = Check.land(land);
        z.tell(0, 0);
        Check.law(z, "hush if person < 1 and not again;earn 5;hush if coins < 5;hush if lived < 1");
        z.dawns(1);
        s.due("THE DAY was LIVED, COINS were EARNED by then", 5, () -> z.person(1, 5));
        DayTables w = Check.land(land);
        w.tell(0, 0);
        w.tell(1, 1);
        Check.law(w, "hush if person < 1");
        w.dawns(1);
        s.dues("one who is SILENT hears", "7 6", () -> w.person(0, 5), () -> w.person(1, 5));
        DayTables v = Check.land("days 3;village 0 1 2;person 0 3;person 0 0;fact 0 0;debt 0 1 3 in 0 made 2 due 1");
        v.tell(0, 0);
        Check.law(v, "hush if coins < 3 and person < 1");
        v.dawns(1);
        s.dues("COINS as they are ahead of (e)", "1 0", () -> v.person(1, 5), () -> v.person(0, 3));
        v.tell(0, 0);
        s.due("SILENT now", 1, () -> v.rule(0, 0, 1));
    }

    private void debts() {
        s.holds(20, "as much as the one has, and the other may have (9999): by how much that is less than N is MISSED (MADE and DUE alike)");
        DayTables x = Check.land("days 3;village 0 1 2;person 0 0;person 0 7;debt 0 1 7 in 0 made 1 due 2");
        x.dawns(1);
        s.dues("MADE: just as many", "7 0 0", () -> x.person(0, 3), () -> x.person(1, 3), () -> x.debt(0, 6));
        x.dawns(1);
        s.dues("DUE: just as many", "0 7 0", () -> x.person(0, 3), () -> x.person(1, 3), () -> x.debt(0, 6));
        DayTables y = Check.land("days 3;village 0 1 2;person 0 6;person 0 6;debt 0 1 7 in 0 made 2 due 1");
        y.dawns(1);
        s.dues("DUE ahead of MADE: one less", "0 12 1", () -> y.person(0, 3), () -> y.person(1, 3), () -> y.debt(0, 6));
        y.dawns(1);
        s.dues("MADE", "7 5 1", () -> y.person(0, 3), () -> y.person(1, 3), () -> y.debt(0, 6));
        y.dawns(2);
        s.dues("DUE again", "0 12 1", () -> y.person(0, 3), () -> y.person(1, 3), () -> y.debt(0, 6));
        y.give(1, 0, 12);
        y.dawns(1);
        s.dues("MADE of nothing", "12 0 8 8", () -> y.person(0, 3), () -> y.person(1, 3), () -> y.debt(0, 6), () -> y.count(15));
        s.due("COINS of all stay", 12, () -> y.count(11));
    }

    private void debtsFull() {
        s.holds(20, "the other may have (9999)");
        DayTables x = Check.land("days 3;village 0 1 2;person 0 9992;person 0 50;debt 0 1 7 in 0 made 1 due 2");
        x.dawns(1);
        s.dues("up to 9999", "9999 43 0", () -> x.person(0, 3), () -> x.person(1, 3), () -> x.debt(0, 6));
        DayTables y = Check.land("days 3;village 0 1 2;person 0 9993;person 0 50;debt 0 1 7 in 0 made 1 due 2");
        y.dawns(1);
        s.dues("one more", "9999 44 1", () -> y.person(0, 3), () -> y.person(1, 3), () -> y.debt(0, 6));
        DayTables z = Check.land("days 3;village 0 1 2;person 0 50;person 0 9999;debt 0 1 7 in 0 made 2 due 1");
        z.dawns(1);
        s.dues("DUE to one who can have no more", "50 9999 7", () -> z.person(0, 3), () -> z.person(1, 3), () -> z.debt(0, 6));
        DayTables w = Check.land("days 3;village 0 1 2;person 0 4;person 0 9997;debt 0 1 7 in 0 made 2 due 1");
        w.dawns(1);
        s.dues("has 4, may have 2", "2 9999 5", () -> w.person(0, 3), () -> w.person(1, 3), () -> w.debt(0, 6));
    }

    private void debtsInOrder() {
        s.holds(20, "(e) Each DEBT, by numbers, of a VILLAGE that has this DAY");
        DayTables x = Check.land("days 3;village 0 1 2;village 1 2 0;person 0 5;person 0 0;person 0 0;road 0 1 5",
            "debt 0 1 5 in 0 made 0 due 1;debt 1 2 5 in 0 made 0 due 1;debt 0 2 9 in 1 made 0 due 1");
        x.go(0, 0);
        x.go(2, 0);
        x.dawns(1);
        s.due("one behind another, wherever both are", "0 0 5", () -> coins(x));
        s.due("not of a VILLAGE that has another DAY", "0 0 0", () -> x.debt(0, 6) + " " + x.debt(1, 6) + " " + x.debt(2, 6));
        DayTables y = Check.land("days 3;village 0 1 2;person 0 5;person 0 0;person 0 0",
            "debt 1 2 5 in 0 made 0 due 1;debt 0 1 5 in 0 made 0 due 1");
        y.dawns(1);
        s.due("the lesser number first", "0 5 0", () -> coins(y));
        s.due("MISSED", "5 0 5", () -> y.debt(0, 6) + " " + y.debt(1, 6) + " " + y.count(15));
        s.holds(20, "MADE: N goes from the creditor to the debtor; DUE: from the debtor to the creditor: wherever both are");
        DayTables z = Check.land("days 3;village 0 1 2;person 0 0;person 0 9;debt 0 1 4 in 0 made 1 due 0");
        Check.law(z, "earn 1");
        z.dawns(1);
        s.due("MADE, behind what is EARNED", "5 6", () -> coins(z));
        z.dawns(1);
        s.due("neither", "6 7", () -> coins(z));
        z.dawns(1);
        s.due("DUE in the next printing", "3 12", () -> coins(z));
    }

    private void longLife() {
        s.holds(20, "An object is used for at most 512 calls after it has been made");
        DayTables x = Check.land("days 3;village 0 1 2;person 0 9999;person 0 9999;person 0 9999;person 0 9999;person 0 9999;person 0 9999;"
            + "person 0 9999;person 0 9999", "debt 0 1 999 in 0 made 0 due 1;debt 2 3 999 in 0 made 0 due 1");
        Check.law(x, "earn 99;earn 99;earn 99;earn 99;earn 99;earn 99;earn 99;earn 99;earn 99;earn 99;earn 99;earn 99");
        for (int i = 0; i < 450; i++) {
            x.dawns(200);
        }
        s.due("TIME", 90000, () -> x.count(8));
        long coins = 8L * 9999 + x.count(13);
        s.due("COINS of all", true, () -> x.count(11) == coins);
        s.due("LOST and EARNED", 90000L * 8 * 1188, () -> (long) x.count(14) + x.count(13));
        s.due("the last PAGE has come round", 7, () -> x.person(7, 4));
        s.due("the latest twelve", 12, () -> x.count(19));
        s.due("SOONEST from a late TIME", 90001, () -> x.soonest(0, 0, 1));
    }
}
