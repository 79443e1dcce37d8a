/** From the document's first line to the end of its first part: the terms, THE COUNTRY and THE LAW. */
final class WalkOfTerms {
    private static final String INDEX = Sentences.INDEX;
    private static final String THREE = "days 3;village 0 1 2;village 1 2 0;person 0 5;person 1 6";

    private final Walk w;

    WalkOfTerms(Walk w) {
        this.w = w;
    }

    void all() {
        begin();
        days();
        people();
        things();
        linesOfCountry();
        placesOfCountry();
        linesOfLaw();
        partsOfLaw();
        meaningOfLaw();
        words();
        faults();
    }

    private void begin() {
        w.passes("# DayTables ## What it is");
        w.passesTo("==== 1.");
        w.passes("==== 1.");
        w.reads("An object is used for at most 512 calls after it has been made; what later calls answer is free.");
        DayTables x = new DayTables();
        for (int call = 0; call < 511; call++) {
            x.dawns(1);
        }
        w.due("the 512th", 511, () -> x.count(8));
        w.passes("## The public face");
        w.passesTo("## Terms");
        w.passes("## Terms");
    }

    private void days() {
        w.reads("DAYS: 0 to D less 1 (D 3 to 16; 7 at first).");
        DayTables x = new DayTables();
        w.dues("seven", "7 1 0 " + INDEX, () -> x.count(9), () -> Walk.country(x, "village 6 0 1 2 3 4 5"), () -> x.page(0, 6),
            () -> x.page(0, 7));
        DayTables y = new DayTables();
        w.dues("the least, the most", "1 2 3 16", () -> Walk.country(y, "days 3"), () -> Walk.country(y, "days 3;days 16"),
            () -> Walk.country(y, "feast 15"), () -> y.count(9));
        w.dues("beyond", "wrong at 5 wrong at 5", () -> Walk.country(y, "days 2"), () -> Walk.country(y, "days 17"));
        w.reads("VILLAGES (at most 6, numbered from 0 on): a TABLE: each DAY once, in an order.");
        DayTables six = Check.land("days 3;" + Walk.repeated("village 2 0 1", 6));
        w.dues("six", "6 2 0 1 wrong at 0", () -> six.count(0), () -> Walk.row(3, page -> six.day(5, page)),
            () -> Walk.country(six, "village 2 0 1"));
        w.reads("TIME: 0 at first.");
        w.due("TIME", 0, () -> x.count(8));
        w.reads("PAGE of a TIME: TIME modulo D; PRINTING: TIME by D, rounded down.");
        DayTables p = Check.land("days 5;village 0 1 2 3 4;person 0 0");
        p.dawns(13);
        w.dues("13 by 5", "1 1 0", () -> Walk.law(p, "earn 1 if page > 2 and page < 4 and printing > 1 and printing < 3"),
            () -> p.rule(0, 0, 2), () -> {
                p.dawns(1);
                return p.rule(0, 0, 2);
            });
        w.reads("THE DAY of a VILLAGE at a TIME: what its TABLE (as it is now) has at that PAGE (0 the first).");
        DayTables t = Check.land("days 3;village 2 0 1");
        w.dues("at 0, 1, 2, 3", "2 0 1 2", () -> Walk.row(4, time -> t.day(0, time)));
        w.dues("as it is now", "2 1 0 2 1", () -> Walk.country(t, "misprint 0 2 1"), () -> Walk.row(4, time -> t.day(0, time)));
    }

    private void people() {
        w.passes("```text");
        w.reads("PEOPLE (at most 8, numbered from 0 on): WHERE (a VILLAGE), or ON A ROAD to a VILLAGE, to be there at a TIME; "
            + "COINS 0 to 9999; LIVED: DAYS, as bits (none at first); KNOWS: FACTS, as bits (none at first).");
        DayTables x = Check.land("days 3;village 0 1 2;village 0 1 2;road 0 1 4;person 0 0;person 1 9999");
        w.dues("WHERE, COINS", "0 -1 -1 0 0 0 0 1 -1 -1 9999 0 0 0", () -> Walk.row(7, what -> x.person(0, what)),
            () -> Walk.row(7, what -> x.person(1, what)));
        w.dues("ON A ROAD", "4 -1 1 4 0 0 0 0", () -> x.go(0, 0), () -> Walk.row(7, what -> x.person(0, what)));
        w.dues("at most 8", "2 8 wrong at 0", () -> Walk.country(x, Walk.repeated("person 0 1", 6)), () -> x.count(1),
            () -> Walk.country(x, "person 0 1"));
        w.reads("FACTS (at most 8, numbered from 0 on): of a VILLAGE and a DAY.");
        w.dues("eight", "3 8 0 2 1 0 wrong at 1", () -> Walk.country(x, "fact 0 2;" + Walk.repeated("fact 1 0", 7)), () -> x.count(2),
            () -> x.fact(0, false), () -> x.fact(0, true), () -> x.fact(7, false), () -> x.fact(7, true), () -> Walk.country(x, " fact 0 0"));
        x.tell(1, 0);
        x.tell(1, 7);
        x.dawns(2);
        w.dues("bits of DAYS, of FACTS", "6 129", () -> x.person(1, 4), () -> x.person(1, 5));
        w.reads("ROADS (at most 12, numbered from 0 on): between two VILLAGES, both ways, LONG 1 to 5 dawns.");
        w.dues("twelve", "4 12 1 0 5 wrong at 0", () -> Walk.country(x, Walk.repeated("road 1 0 5", 11)), () -> x.count(3),
            () -> Walk.row(3, what -> x.road(11, what)), () -> Walk.country(x, "road 0 1 1"));
        w.dues("both ways", "7 7", () -> x.go(1, 11), () -> x.go(2, 11));
        w.dues("LONG", "wrong at 9 wrong at 9", () -> Walk.country(Check.land(THREE), "road 0 1 0"),
            () -> Walk.country(Check.land(THREE), "road 0 1 6"));
        w.reads("FEASTS: DAYS, as bits (none at first).");
        w.dues("none, two", "0 5 5", () -> x.count(10), () -> Walk.country(x, "feast 2;feast 0"), () -> x.count(10));
    }

    private void things() {
        DayTables x = Check.land(THREE);
        w.reads("DEBTS (at most 8, numbered from 0 on): of one PERSON to another one, N 1 to 999, of a VILLAGE, MADE on a DAY, "
            + "DUE on a DAY (not the same one).");
        w.dues("eight", "2 8 1 0 999 1 2 0 0", () -> Walk.country(x, Walk.repeated("debt 1 0 999 in 1 made 2 due 0", 8)), () -> x.count(4),
            () -> Walk.row(7, what -> x.debt(7, what)));
        w.dues("a ninth", "wrong at 0", () -> Walk.country(x, "debt 1 0 999 in 1 made 2 due 0"));
        DayTables y = Check.land(THREE);
        w.dues("N, the same DAY", "wrong at 9 wrong at 9 wrong at 27", () -> Walk.country(y, "debt 1 0 0 in 1 made 2 due 0"),
            () -> Walk.country(y, "debt 1 0 1000 in 1 made 2 due 0"), () -> Walk.country(y, "debt 1 0 5 in 1 made 2 due 2"));
        w.reads("TASKS (at most 8, numbered from 0 on): to be done in a VILLAGE on a DAY, AFTER another TASK of a lesser number, or none.");
        w.dues("eight", "3 8 0 2 -1 -1 -1 1 1 6 -1 -1", () -> Walk.country(x, Walk.repeated("task 0 2", 7) + ";task 1 1 after 6"),
            () -> x.count(5), () -> Walk.row(5, what -> x.task(0, what)), () -> Walk.row(5, what -> x.task(7, what)));
        w.dues("a ninth, AFTER itself", "wrong at 0 wrong at 15", () -> Walk.country(x, "task 0 2"), () -> Walk.country(y, "task 0 2 after 0"));
        w.reads("CHANCE of a misprint: 0 to 100 (0 at first).");
        w.dues("0, 100, beyond", "0 2 100 wrong at 7", () -> y.count(18), () -> Walk.country(y, "chance 100"), () -> y.count(18),
            () -> Walk.country(y, "chance 101"));
    }

    private void linesOfCountry() {
        w.reads("THE COUNTRY is told in texts (at most 12, one behind another): LINE { ; LINE }, at most 14: days D | village A { A } | "
            + "person V N | fact V A | road V V N | feast A | debt P P N in V made A due A | task V A [ after T ] | chance N | misprint V A A.");
        DayTables x = new DayTables();
        String most = "days 4;village 0 1 2 3;village 3 2 1 0;person 0 5;person 1 6;fact 1 2;road 0 1 3;feast 1;debt 0 1 7 in 1 made 2 due 3;"
            + "task 0 3;task 1 0 after 0;chance 40;misprint 1 3 0;feast 2";
        w.due("a 15th", "wrong at " + (most.length() + 1), () -> Walk.country(x, most + ";feast 3"));
        w.due("14 LINES", 1, () -> Walk.country(x, most));
        w.dues("all that is told", "2 2 1 1 1 2 1 -1 0 4 6 11 11", () -> Walk.row(13, what -> x.count(what)));
        w.dues("CHANCE, the misprint", "40 0 2 1 3", () -> x.count(18), () -> Walk.row(4, page -> x.day(1, page)));
        w.due("the DEBT", "0 1 7 1 2 3 0", () -> Walk.row(7, what -> x.debt(0, what)));
        for (int text = 2; text <= 12; text++) {
            w.due("text", text, () -> Walk.country(x, "feast 0"));
        }
        w.due("a 13th", Sentences.UNSUPPORTED, () -> Walk.country(x, "feast 0"));
    }

    private void placesOfCountry() {
        DayTables x = Check.land(THREE, "task 0 0");
        w.reads("A: a DAY; V, P, T: one that there is by then (the two of road, of debt, not the same; of due another DAY than of made; "
            + "else the latter is wrong).");
        w.dues("by then", "3 wrong at 7", () -> Walk.country(x, "village 0 1 2;person 2 5;debt 0 2 5 in 2 made 0 due 1;task 2 2 after 0"),
            () -> Walk.country(new DayTables(), "person 0 5"));
        w.dues("none", "wrong at 7 wrong at 7 wrong at 5 wrong at 15 wrong at 7", () -> Walk.country(x, "person 3 0"),
            () -> Walk.country(x, "fact 0 3"), () -> Walk.country(x, "debt 3 0 5 in 0 made 0 due 1"), () -> Walk.country(x, "task 0 0 after 2"),
            () -> Walk.country(x, "task 0 3"));
        w.dues("the latter", "wrong at 7 wrong at 7 wrong at 27", () -> Walk.country(x, "road 2 2 1"),
            () -> Walk.country(x, "debt 1 1 5 in 0 made 0 due 1"), () -> Walk.country(x, "debt 1 0 5 in 0 made 1 due 1"));
        w.reads("days: only as long as there is no VILLAGE (else that word is wrong); FEASTS that are no DAYS by it are none.");
        w.dues("with a VILLAGE", "wrong at 8", () -> Walk.country(x, "feast 1;days 3"));
        DayTables y = new DayTables();
        w.dues("FEASTS", "1 9 2 4 1", () -> Walk.country(y, "feast 0;feast 3"), () -> y.count(10), () -> Walk.country(y, "days 3;days 4"),
            () -> y.count(9), () -> y.count(10));
        w.reads("village: just D DAYS, none twice (a DAY told twice is wrong).");
        w.dues("fewer, more, twice", "wrong at 11 wrong at 14 wrong at 12", () -> Walk.country(x, "village 0 1"),
            () -> Walk.country(x, "village 0 1 2 0"), () -> Walk.country(x, "village 0 1 0"));
        w.reads("misprint: two DAYS of a TABLE change their PAGES (the same: nothing).");
        w.dues("two, the same", "4 2 1 0 5 2 1 0", () -> Walk.country(x, "misprint 0 0 2"), () -> Walk.row(3, page -> x.day(0, page)),
            () -> Walk.country(x, "misprint 0 1 1"), () -> Walk.row(3, page -> x.day(0, page)));
        w.reads("feast: a DAY more.");
        w.dues("one, one more, the same", "6 2 7 6 8 6", () -> Walk.country(x, "feast 1"), () -> x.count(10), () -> Walk.country(x, "feast 2"),
            () -> x.count(10), () -> Walk.country(x, "feast 1"), () -> x.count(10));
        w.reads("COINS, all numbers are of 1 to 4 digits (N of person 0 to 9999, of debt 1 to 999).");
        w.dues("of person", "9 9999 wrong at 9 wrong at 9", () -> Walk.country(x, "person 0001 9999;person 0 0000"), () -> x.person(3, 3),
            () -> Walk.country(x, "person 0 10000"), () -> Walk.country(x, "person 0 00000"));
        w.dues("of debt", "10 999 1 wrong at 9", () -> Walk.country(x, "debt 0 1 0999 in 0 made 0 due 1;debt 0 1 1 in 0 made 0 due 1"),
            () -> x.debt(1, 2), () -> x.debt(2, 2), () -> Walk.country(x, "debt 0 1 1000 in 0 made 0 due 1"));
    }

    private void linesOfLaw() {
        DayTables x = Check.land(THREE);
        w.reads("THE LAW (a text, in place of the one before): LINE { ; LINE }, at most 12: bar [ if C ] | hush [ if C ] | earn N [ if C ].");
        w.dues("each", "3 1 1 7", () -> Walk.law(x, "bar;hush;earn 7"), () -> Walk.row(3, what -> x.rule(0, 0, what)));
        w.dues("each, if", "3 0 1 0", () -> Walk.law(x, "bar if 1 < 0;hush if 0 < 1;earn 7 if 1 < 0"), () -> Walk.row(3, what -> x.rule(0, 0, what)));
        w.dues("twelve, a 13th", "12 12 wrong at 84", () -> Walk.law(x, Walk.repeated("earn 1", 12)), () -> x.rule(0, 0, 2),
            () -> Walk.law(x, Walk.repeated("earn 1", 13)));
    }

    /** 1, if a condition holds for PERSON 1 in VILLAGE 1 now. */
    private static int holds(DayTables x, String condition) {
        Check.law(x, "earn 1 if " + condition);
        return x.rule(1, 1, 2);
    }

    private void partsOfLaw() {
        DayTables x = Check.land(THREE, "feast 0");
        x.dawns(1);
        w.reads("C: ALL { or ALL }; ALL: ATOM { and ATOM }; ATOM: not ATOM | ( C ) | again | feast | SUM < SUM | SUM > SUM.");
        w.dues("again (2 is LIVED), no feast (0)", "1 0", () -> holds(x, "again"), () -> holds(x, "feast"));
        w.dues("and ahead of or", "1 1 0", () -> holds(x, "again or feast and feast"), () -> holds(x, "feast and feast or again"),
            () -> holds(x, "(again or feast) and feast"));
        w.dues("not of one ATOM", "1 0 1 0", () -> holds(x, "not feast or feast"), () -> holds(x, "not again or feast"),
            () -> holds(x, "not (feast and again)"), () -> holds(x, "not 3 > 2 and 1 < 2"));
        w.dues("SUMS", "1 0 0 1", () -> holds(x, "2 < 3"), () -> holds(x, "3 < 3"), () -> holds(x, "3 > 3"), () -> holds(x, "3 > 2"));
        w.reads("SUM: PART { + PART }; PART: NUMBER | person | village | day | page | printing | known | lived | coins.");
        String all = "person + village + day + page + printing + known + lived + coins";
        w.dues("1, 1, 2, 1, 0, 0, 1, 6: 12", "0 1 0", () -> holds(x, all + " < 12"), () -> holds(x, all + " < 13"), () -> holds(x, all + " > 12"));
        w.dues("no PARTS", "wrong at 7 wrong at 11", () -> Walk.law(x, "bar if - 3 < 4"), () -> Walk.law(x, "bar if 3 + < 4"));
        w.reads("All numbers are of 1 to 3 digits here (N of earn 0 to 99).");
        w.dues("up to 999", "1 wrong at 7 wrong at 7", () -> holds(x, "999 > 998 + 000"), () -> Walk.law(x, "bar if 1000 > 1"),
            () -> Walk.law(x, "bar if 0001 > 1"));
        w.dues("up to 99", "1 99 1 0 wrong at 5", () -> Walk.law(x, "earn 099"), () -> x.rule(0, 0, 2), () -> Walk.law(x, "earn 0"),
            () -> x.rule(0, 0, 2), () -> Walk.law(x, "earn 100"));
    }

    private void meaningOfLaw() {
        DayTables x = Check.land("days 4;village 0 1 2 3;village 3 2 1 0;road 0 1 5;feast 2;person 0 9;person 1 8;fact 0 1;fact 0 2;fact 0 2");
        x.dawns(6);
        w.reads("Of a PERSON in a VILLAGE at a TIME: day: THE DAY there; page, printing: of that TIME; known, lived: how many FACTS, DAYS "
            + "(as they are now); again: THE DAY is one that was LIVED; feast: it is a FEAST.");
        w.dues("of PERSON 1 in VILLAGE 1 at TIME 6", "1 1 1 1 1 1 0", () -> holds(x, "day > 0 and day < 2"), () -> holds(x, "page > 1 and page < 3"),
            () -> holds(x, "printing > 0 and printing < 2"), () -> holds(x, "known < 1"), () -> holds(x, "lived > 3 and lived < 5"),
            () -> holds(x, "again"), () -> holds(x, "feast"));
        Check.law(x, "earn 1 if known > 2;earn 2 if day > 1 and day < 3;earn 4 if feast;earn 8 if again;earn 16 if coins > 8 and coins < 10");
        w.due("of PERSON 0 in VILLAGE 0", 31, () -> x.rule(0, 0, 2));
        w.due("of PERSON 1 as if there", 14, () -> x.rule(1, 0, 2));
        Check.law(x, "bar if printing < 2");
        w.due("at a TIME that is not now", 13, () -> x.soonest(0, 1, -1));
        w.reads("BARRED: some bar LINE holds; SILENT: some hush LINE; EARNS: the sum of N of all earn LINES that hold (0 without a text).");
        Check.law(x, "bar if 1 < 0;hush if feast;bar if 0 < 1;earn 5;earn 6 if 1 < 0;hush if 1 < 0;earn 70");
        w.dues("of a feast, of none", "1 1 75 1 0 75", () -> Walk.row(3, what -> x.rule(0, 0, what)), () -> Walk.row(3, what -> x.rule(0, 1, what)));
        w.due("without a text", "0 0 0", () -> {
            DayTables y = Check.land(THREE);
            return Walk.row(3, what -> y.rule(0, 0, what));
        });
    }

    private void words() {
        DayTables x = Check.land(THREE);
        w.reads("Words are as long as a to z go on; between all there may be blanks (32), also ahead and behind.");
        w.dues("words", "2 wrong at 0 wrong at 0 wrong at 0", () -> Walk.country(x, "feast1"), () -> Walk.country(x, "feasta 1"),
            () -> Walk.country(x, "Feast 1"), () -> Walk.country(x, "fe ast 1"));
        w.dues("blanks", "3 4 wrong at 7 wrong at 0", () -> Walk.country(x, "   feast   1  ;  feast 2   "), () -> Walk.country(x, "person0 7;feast2"),
            () -> Walk.country(x, "feast 1\n"), () -> Walk.country(x, "\tfeast 1"));
        w.reads("A text that is empty, or blanks alone, has no LINE.");
        w.dues("of THE COUNTRY, of THE LAW", "5 6 0 0", () -> Walk.country(x, ""), () -> Walk.country(x, "     "), () -> Walk.law(x, ""),
            () -> Walk.law(x, "  "));
        w.reads("( and not within one another at most 6 deep.");
        w.dues("six", "1 1 1", () -> Walk.law(x, "bar if ((((((again))))))"), () -> Walk.law(x, "bar if not not not not not not again"),
            () -> Walk.law(x, "bar if not (not (not (again))) or not feast"));
        w.dues("a 7th", "wrong at 13 wrong at 31 wrong at 22", () -> Walk.law(x, "bar if (((((((again)))))))"),
            () -> Walk.law(x, "bar if not not not not not not not again"), () -> Walk.law(x, "bar if not (not (not (( again"));
    }

    private void faults() {
        DayTables x = Check.land(THREE, Walk.repeated("village 0 1 2", 4), Walk.repeated("fact 0 0", 8));
        w.reads("The first wrong byte: the begin of the first thing that cannot stand there (a number of more digits, or out of its bounds, "
            + "or that tells none that can be; a word that is none; the ( or not that is a 7th one deep; of a LINE too many, of a VILLAGE, "
            + "PERSON, FACT, ROAD, DEBT, TASK too many, the first word; of a TABLE a DAY too many that number, too few what comes instead), "
            + "or the text's length, if more must come.");
        w.dues("numbers", "wrong at 6 wrong at 7 wrong at 5", () -> Walk.country(x, "feast 00001"), () -> Walk.country(x, "chance 200"),
            () -> Walk.country(x, "road 6 0 1"));
        w.dues("a word", "wrong at 9 wrong at 13", () -> Walk.country(x, "feast 1; fest 2"), () -> Walk.law(x, "bar if again nor feast"));
        w.dues("( or not", "wrong at 13 wrong at 13", () -> Walk.law(x, "bar if (((((((again)))))))"), () -> Walk.law(x, "bar if ((((((not again))))))"));
        w.dues("too many", "wrong at 112 wrong at 48 wrong at 8 wrong at 0", () -> Walk.country(x, Walk.repeated("feast 1", 15)),
            () -> Walk.law(x, Walk.repeated("bar", 13)), () -> Walk.country(x, "feast 1;village 0 1 2"), () -> Walk.country(x, "fact 0 0"));
        w.dues("of a TABLE", "wrong at 21 wrong at 18", () -> Walk.country(new DayTables(), "days 3;village 0 1 2 1"),
            () -> Walk.country(new DayTables(), "days 3;village 0 1;feast 0"));
        w.dues("more must come", "wrong at 5 wrong at 8 wrong at 9 wrong at 6", () -> Walk.country(x, "feast"), () -> Walk.country(x, "feast 1;"),
            () -> Walk.country(x, "feast 1; "), () -> Walk.law(x, "bar if"));
        w.reads("Of a wrong text nothing stays.");
        String before = Check.all(x);
        w.dues("all but the last", "wrong at 29 3", () -> Walk.country(x, "feast 1;person 0 5;chance 9; days 3"), () -> x.count(6));
        w.due("all is as it was", before, () -> Check.all(x));
        w.passes("```");
    }
}
