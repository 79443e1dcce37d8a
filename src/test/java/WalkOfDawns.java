/** The document's second part: SET OUT, a DAWN, THE LOG, ACTS and BOOKS. */
final class WalkOfDawns {
    private static final String STATE = Sentences.STATE;

    private final Walk w;

    WalkOfDawns(Walk w) {
        this.w = w;
    }

    void all() {
        setOut();
        misprints();
        draws();
        arriving();
        each();
        talking();
        debts();
        log();
        acts();
        books();
    }

    private static String table(DayTables x) {
        return Walk.row(x.count(9), page -> x.day(0, page));
    }

    private static String logged(DayTables x, int ago) {
        return Walk.row(4, what -> x.log(ago, what));
    }

    private void setOut() {
        w.passes("==== 2.");
        w.reads("SET OUT: one who is in a VILLAGE goes by a ROAD from there: ON A ROAD to the other one, there at TIME and LONG; "
            + "refused, if not there, or BARRED (there, now).");
        DayTables x = Check.land("days 3;village 0 1 2;village 0 1 2;village 0 1 2;road 0 1 3;road 1 2 2;person 0 0;person 1 0;person 2 0");
        x.dawns(2);
        w.dues("by either end", "5 5 -1 1 5 -1 0 5", () -> x.go(0, 0), () -> x.go(1, 0), () -> Walk.row(3, what -> x.person(0, what)),
            () -> Walk.row(3, what -> x.person(1, what)));
        w.dues("not there, ON A ROAD", STATE + " " + STATE, () -> x.go(2, 0), () -> x.go(0, 0));
        Check.law(x, "bar if village > 1 and page > 1");
        w.dues("BARRED there, now; a dawn later not", STATE + " 0 5", () -> x.go(2, 1), () -> x.dawns(1), () -> x.go(2, 1));
    }

    private void misprints() {
        w.passes("```text");
        w.reads("A DAWN more: TIME is 1 more.");
        DayTables x = Check.land("days 3;village 0 1 2;chance 39");
        w.dues("one, then two", "0 1 0 3", () -> x.dawns(1), () -> x.count(8), () -> x.dawns(2), () -> x.count(8));
        w.reads("(a) If PAGE is 0: each VILLAGE, by numbers: DRAW modulo 100 below CHANCE: two PAGES of it, DRAW modulo D and DRAW modulo D "
            + "(drawn in this order), change their DAYS.");
        w.due("DRAWS 16838 (38 is below 39), 5758, 10113: PAGES 1 and 0", "1 0 2", () -> table(x));
        DayTables y = Check.land("days 3;village 0 1 2;chance 38");
        w.dues("38 is not below 38", "0 0 1 2", () -> y.dawns(3), () -> table(y));
        w.dues("DRAW 5758: 58 is not", "0 0 1 2", () -> y.dawns(3), () -> table(y));
        w.dues("DRAW 10113: 13 is below 38; DRAWS 17515, 31051: PAGES 1 and 1", "0 0 1 2", () -> y.dawns(3), () -> table(y));
        w.dues("DRAW 5627: 27 is below 38; DRAWS 23010, 7419: PAGES 0 and 0", "0 0 1 2", () -> y.dawns(3), () -> table(y));
        w.dues("DRAW 16212: 12 is below 38; DRAWS 4086, 2749: PAGES 0 and 1", "0 1 0 2", () -> y.dawns(3), () -> table(y));
        DayTables two = Check.land("days 3;village 0 1 2;village 0 1 2;chance 50");
        two.dawns(3);
        w.dues("VILLAGE 0: 38, PAGES 1 and 0; VILLAGE 1: 15, PAGES 1 and 2", "1 0 2 0 2 1", () -> table(two), () -> Walk.row(3, p -> two.day(1, p)));
    }

    private void draws() {
        w.reads("DRAW: SEED is 1103515245 times SEED and 12345, as an int that goes round; bits 16 to 30 (SEED 1 at first).");
        DayTables x = Check.land("days 3;village 0 1 2");
        x.dawns(3);
        w.due("behind one DRAW", 1103527590, () -> x.seed(1103527590));
        x.dawns(3);
        w.due("behind two", -1770082073, () -> x.seed(-1));
        x.dawns(3);
        w.due("of -1", -1103502900, () -> x.seed(1));
    }

    private void arriving() {
        w.reads("(b) Whoever is to be there at TIME is in that VILLAGE.");
        DayTables x = Check.land("days 3;village 0 1 2;village 2 0 1;road 0 1 2;person 0 0;fact 1 1;fact 0 2");
        x.go(0, 0);
        w.dues("not yet, then", "0 -1 1 1 1 -1", () -> x.dawns(1), () -> x.person(0, 0), () -> x.person(0, 1), () -> x.dawns(1),
            () -> x.person(0, 0), () -> x.person(0, 1));
        w.dues("by then one is there: THE DAY of there, FACTS of there", "2 1", () -> x.person(0, 4), () -> x.person(0, 5));
    }

    private void each() {
        w.reads("(c) Each PERSON in a VILLAGE, by numbers: EARNS (by all as it is now; 9999 at most: what is above is LOST); "
            + "then THE DAY is LIVED; then all FACTS of that VILLAGE and DAY are known.");
        DayTables x = Check.land("days 3;village 0 1 2;village 0 1 2;road 0 1 5;person 0 9995;person 1 1;person 0 1;fact 0 1;fact 0 1;fact 1 2");
        Check.law(x, "earn 7;earn 10 if lived > 0;earn 20 if known > 1");
        x.go(2, 0);
        w.dues("FACTS: two by one", "2 3 0 0", () -> x.dawns(1), () -> x.person(0, 5), () -> x.person(1, 5), () -> x.person(2, 5));
        w.dues("COINS, EARNED, LOST", "9999 8 1 11 3", () -> x.person(0, 3), () -> x.person(1, 3), () -> x.person(2, 3), () -> x.count(13),
            () -> x.count(14));
        w.dues("LIVED", "2 2 0", () -> x.person(0, 4), () -> x.person(1, 4), () -> x.person(2, 4));
        w.dues("the next: 37 are LOST, 17 EARNED", "1 25 28 40", () -> x.dawns(1), () -> x.person(1, 3), () -> x.count(13), () -> x.count(14));
    }

    private void talking() {
        w.reads("(d) In each VILLAGE all who are there come to know what each of these who is not SILENT (by all as it is behind (c)) "
            + "knew behind (c).");
        DayTables x = Check.land("days 3;village 0 1 2;village 0 1 2;person 0 0;person 0 0;person 0 0;person 1 0;fact 0 1;fact 1 0;fact 1 0");
        x.tell(1, 1);
        x.tell(2, 2);
        Check.law(x, "hush if person > 1 and known > 1 or village > 0");
        w.dues("three of THE DAY; 1 tells two, 2 has come to know two by (c) and is SILENT", "5", () -> x.dawns(1));
        w.dues("each, and one elsewhere", "3 3 7 0", () -> x.person(0, 5), () -> x.person(1, 5), () -> x.person(2, 5), () -> x.person(3, 5));
        x.law();
        w.dues("not SILENT", "2 7 7 7 0", () -> x.dawns(1), () -> x.person(0, 5), () -> x.person(1, 5), () -> x.person(2, 5),
            () -> x.person(3, 5));
    }

    private void debts() {
        w.reads("(e) Each DEBT, by numbers, of a VILLAGE that has this DAY: MADE: N goes from the creditor to the debtor; DUE: from the debtor "
            + "to the creditor: wherever both are; as much as the one has, and the other may have (9999): by how much that is less than N is "
            + "MISSED (MADE and DUE alike).");
        DayTables x = Check.land("days 3;village 0 1 2;village 1 2 0;road 0 1 5;person 0 4;person 1 9998;person 0 0",
            "debt 0 1 3 in 0 made 2 due 1;debt 0 2 3 in 0 made 2 due 1;debt 2 0 5 in 1 made 2 due 1");
        x.go(0, 0);
        x.dawns(1);
        w.dues("DUE: 1 to PERSON 1, who may have no more; 3 to PERSON 2; MADE in VILLAGE 1: 0 of 5", "0 9999 3", () -> x.person(0, 3),
            () -> x.person(1, 3), () -> x.person(2, 3));
        w.dues("MISSED", "2 0 5 7", () -> x.debt(0, 6), () -> x.debt(1, 6), () -> x.debt(2, 6), () -> x.count(15));
        x.dawns(1);
        w.dues("MADE: 3 of PERSON 1, 3 of PERSON 2", "6 9996 0", () -> x.person(0, 3), () -> x.person(1, 3), () -> x.person(2, 3));
        x.dawns(1);
        w.dues("DUE in VILLAGE 1: 0 of 5", "6 9996 0 2 0 10", () -> x.person(0, 3), () -> x.person(1, 3), () -> x.person(2, 3),
            () -> x.debt(0, 6), () -> x.debt(1, 6), () -> x.debt(2, 6));
    }

    private void log() {
        w.reads("THE LOG: of the latest 100 times that one came to know a FACT: TIME, who, the FACT, and by whom (the least number of those who "
            + "told it; 9: of THE DAY itself); of one dawn first all of (c), then all of (d), by PEOPLE, then by FACTS.");
        DayTables x = Check.land("days 3;village 0 1 2;person 0 0;person 0 0;person 0 0;fact 0 1;fact 0 2;fact 0 1;fact 0 0");
        x.tell(2, 3);
        x.tell(1, 1);
        x.tell(2, 1);
        w.due("six of THE DAY, three told", 9, () -> x.dawns(1));
        String[] rows = {"1 1 3 2", "1 0 3 2", "1 0 1 1", "1 2 2 9", "1 2 0 9", "1 1 2 9", "1 1 0 9", "1 0 2 9", "1 0 0 9",
            "0 2 1 8", "0 1 1 8", "0 2 3 8", "-1 -1 -1 -1"};
        for (int i = 0; i < rows.length; i++) {
            int ago = i;
            w.due("so many ago: " + ago, rows[ago], () -> logged(x, ago));
        }
    }

    private void acts() {
        w.reads("ACTS: one sets out; COINS are given by one to another one (in one VILLAGE, not ON A ROAD); a TASK is done by one who is there on "
            + "that DAY now (each once; AFTER done); a FACT is told to one by hand (each also if it changes nothing).");
        DayTables x = Check.land("days 3;village 0 1 2;village 0 1 2;road 0 1 2;person 0 9;person 0 9;person 1 9;person 0 9;fact 0 0",
            "task 0 0;task 0 0 after 0;task 1 0;task 0 1");
        w.dues("one sets out", "2 1", () -> x.go(3, 0), () -> x.count(19));
        w.dues("COINS", "13 " + STATE + " " + STATE + " 2", () -> x.give(0, 1, 4), () -> x.give(0, 2, 1), () -> x.give(0, 3, 1), () -> x.count(19));
        w.dues("TASKS", STATE + " 1 2 " + STATE + " " + STATE + " " + STATE + " 4", () -> x.work(0, 1), () -> x.work(0, 0), () -> x.work(1, 1),
            () -> x.work(1, 0), () -> x.work(0, 2), () -> x.work(0, 3), () -> x.count(19));
        w.dues("a FACT", "true false 6", () -> x.tell(3, 0), () -> x.tell(3, 0), () -> x.count(19));
    }

    private void books() {
        w.reads("BOOKS: COINS told and EARNED (without LOST) are COINS of all.");
        DayTables x = Check.land("days 3;village 0 1 2;person 0 9990;person 0 3;debt 0 1 99 in 0 made 1 due 2");
        Check.law(x, "earn 8");
        x.give(1, 0, 2);
        for (int dawn = 0; dawn < 30; dawn++) {
            x.dawns(1);
            w.due("dawn", 0, () -> x.count(12) + x.count(13) - x.count(11));
        }
        w.dues("told, LOST", "9993 true", () -> x.count(12), () -> x.count(14) > 0);
        w.passes("```");
    }
}
