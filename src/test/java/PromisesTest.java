/** Each promise by number: ordinary inputs, the edges that the document names, and wrong inputs. */
public final class PromisesTest {
    private static final String INDEX = "throws.IndexOutOfBoundsException";
    private static final String ARGUMENT = "throws.IllegalArgumentException";
    private static final String STATE = "throws.IllegalStateException";
    private static final String ELEMENT = "throws.NoSuchElementException";
    private static final String UNSUPPORTED = "throws.UnsupportedOperationException";

    private static final String LAND = "days 4;village 0 1 2 3;village 2 0 3 1;village 3 2 1 0;"
        + "road 0 1 1;road 1 2 2;person 0 10;person 1 20;person 2 0;fact 0 2;fact 1 3;feast 3;"
        + "debt 0 1 5 in 0 made 3 due 1;task 1 3";

    private static final Check CHECK = new Check();

    private static void due(String what, Object want, Check.Call call) {
        CHECK.due(what, want, call);
    }

    public static void main(String[] args) {
        newObject();
        tape();
        countryTexts();
        countryFaults();
        countryLimits();
        lawTexts();
        lawFaults();
        lawMeaning();
        dayPageWhen();
        rows();
        setOut();
        giving();
        working();
        telling();
        dawnsPass();
        dawnsTalk();
        dawnsMisprint();
        dawnsDebts();
        soonestAndFirst();
        meetingAndCone();
        warnedAndLeast();
        knewThen();
        likeness();
        breadAndTables();
        earlyAndNetted();
        feastsLived();
        plans();
        logged();
        undone();
        images();
        counts();
        CHECK.end();
    }

    private static void newObject() {
        DayTables x = new DayTables();
        int[] want = {0, 0, 0, 0, 0, 0, 0, -1, 0, 7, 0, 0, 0, 0, 0, 0, 0, 0, 0, 0};
        for (int what = 0; what < want.length; what++) {
            int w = what;
            due("1 count " + w, want[w], () -> x.count(w));
        }
        due("1 NONE", -1, () -> DayTables.NONE);
        due("1 fault", -1, x::fault);
        due("1 undo", false, x::undo);
        due("1 back", false, x::back);
        due("1 log", -1, () -> x.log(0, 0));
        due("1 seed", 1, () -> x.seed(1));
        due("1 least", 0, () -> x.least(5));
        due("1 netted", 0, () -> x.netted(-1));
        due("1 bread", 0, x::bread);
        due("1 tables", 720, x::tables);
        due("1 dawns", 0, () -> x.dawns(200));
    }

    private static void tape() {
        DayTables x = new DayTables();
        for (int i = 1; i <= 20; i++) {
            int have = 20 * i;
            due("2 feed", have, () -> x.feed(0, 0, 0, 0, 0));
        }
        due("2 feed full", -1, () -> x.feed(1, 2, 3, 4, 5));
        due("3 end over", false, () -> x.end(401));
        due("3 end all", true, () -> x.end(400));
        due("3 end", true, () -> x.end(381));
        due("2 feed above 400", -1, () -> x.feed(1, 2, 3, 4, 5));
        due("3 end", true, () -> x.end(380));
        due("2 feed to 400", 400, () -> x.feed(1, 2, 3, 4, 5));
        due("3 end below", false, () -> x.end(-1));
        due("3 end least", false, () -> x.end(Integer.MIN_VALUE));
        due("3 end nothing", true, () -> x.end(0));
        due("3 end more than none", false, () -> x.end(1));
        due("2 the highest first", 20, () -> x.feed(0x00010200, -1, -1, -1, -1));
        due("3 end of three", true, () -> x.end(3));
        due("2 clue is A 0, B 1, K 2", 120, x::tables);
        due("2 the tape was used up", 20, () -> x.feed(0, 0, 0, 0, 0));
        due("4 wrong text", ARGUMENT, x::country);
        due("4 used up by a wrong text", 20, () -> x.feed(0, 0, 0, 0, 0));
        due("5 wrong text", ARGUMENT, x::law);
        due("5 used up by a wrong law", 20, () -> x.feed(0, 0, 0, 0, 0));
        due("31 wrong clues", ARGUMENT, x::bread);
        due("31 used up by wrong clues", 20, () -> x.feed(0, 0, 0, 0, 0));
        due("6 bread leaves fault", 0, x::fault);
    }

    private static void countryTexts() {
        DayTables x = new DayTables();
        due("4 empty", 1, x::country);
        due("4 blanks", 2, () -> Check.country(x, "    "));
        due("4 blanks all over", 3, () -> Check.country(x, "  days  3 ; village 2 0 1;village 0 1 2  "));
        due("4 no blanks", 4, () -> Check.country(x, "person1 0020;road0 1 5;feast1;chance100;fact1 2;task0 0"));
        due("4 coins", 20, () -> x.person(0, 3));
        due("4 where", 1, () -> x.person(0, 0));
        due("4 long", 5, () -> x.road(0, 2));
        due("4 feast", 2, () -> x.count(10));
        due("4 chance", 100, () -> x.count(18));
        due("4 a wrong one changes nothing", ARGUMENT, () -> Check.country(x, "feast 0;person 0 7;misprint 0 0 1;x"));
        due("6 fault", 34, x::fault);
        due("4 feasts stay", 2, () -> x.count(10));
        due("4 people stay", 1, () -> x.count(1));
        due("4 coins told stay", 20, () -> x.count(12));
        due("4 table stays", 0, () -> x.page(0, 2));
        due("4 misprint", 5, () -> Check.country(x, "misprint 0 2 1;misprint 1 1 1"));
        due("4 misprinted", 2, () -> x.page(0, 2));
        due("4 misprinted too", 0, () -> x.page(0, 1));
        due("4 same day", 1, () -> x.page(1, 1));
        for (int texts = 6; texts <= 12; texts++) {
            due("4 texts", texts, x::country);
        }
        due("4 wrong and a 13th", ARGUMENT, () -> Check.country(x, "feast 1;feast 3"));
        due("6 fault of a wrong 13th", 14, x::fault);
        due("4 a 13th", UNSUPPORTED, () -> Check.country(x, "feast 0"));
        due("6 fault of a 13th", -1, x::fault);
        due("4 a 13th uses the tape up", 20, () -> x.feed(0, 0, 0, 0, 0));
        due("4 nothing of a 13th", 2, () -> x.count(10));
        due("42 texts", 12, () -> x.count(6));
        DayTables y = Check.land("feast 2;feast 6;days 4;days 3;feast 2;village 0 1 2;feast 1");
        due("4 feasts of fewer days", 6, () -> y.count(10));
        due("4 days", 3, () -> y.count(9));
        DayTables z = Check.land("feast 0;feast 3;feast 4;feast 5;days 4");
        due("4 feasts that are days still", 9, () -> z.count(10));
    }

    private static void faultOf(int at, String text) {
        DayTables x = new DayTables();
        due("4 wrong: " + text, ARGUMENT, () -> Check.country(x, text));
        due("6 fault of: " + text, at, x::fault);
        due("6 nothing stays of: " + text, "0 0 0", () -> x.count(0) + " " + x.count(6) + " " + x.count(10));
    }

    private static void countryFaults() {
        faultOf(0, ";");
        faultOf(2, "  ;");
        faultOf(0, "Days 3");
        faultOf(0, "daysx 3");
        faultOf(0, "day 3");
        faultOf(0, "3");
        faultOf(0, "\u00e9");
        faultOf(5, "days 00003");
        faultOf(8, "days    ");
        faultOf(7, "days 3 4");
        faultOf(6, "days 3x");
        faultOf(8, "feast 1 feast 1");
        faultOf(8, "feast 1;;feast 1");
        faultOf(10, "feast 1;  ");
        faultOf(6, "feast -1");
        faultOf(7, "feast 1.");
        faultOf(7, "feast 1\t");
        faultOf(13, "days 3;feast 3");
        String three = "days 3;village 0 1 2;";
        faultOf(13, "village 0 1 2;x");
        faultOf(19, "days 3;village 0 1 ;feast 1");
        faultOf(21, three + "days 3");
        faultOf(28, three + "person 1 0");
        faultOf(30, three + "person 0 10000");
        faultOf(28, three + "fact 0 3");
        faultOf(28, three + "road 0 1 1");
        faultOf(three.length() + 23, three + "village 0 1 2;road 0 1 0");
        faultOf(three.length() + 23, three + "village 0 1 2;road 0 1 6");
        faultOf(27, three + "task 0x");
        faultOf(30, three + "task 0 0 afte 0");
        faultOf(35, three + "task 0 0 after");
        faultOf(36, three + "task 0 0 after 0");
        faultOf(30, three + "misprint 1 0 0");
        faultOf(32, three + "misprint 0 3 0");
        faultOf(34, three + "misprint 0 0 x");
        String two = three + "person 0 1;person 0 1;";
        int at = two.length();
        faultOf(at + 5, two + "debt 2 0 1 in 0 made 0 due 1");
        faultOf(at + 7, two + "debt 0 2 1 in 0 made 0 due 1");
        faultOf(at + 7, two + "debt 1 1 1 in 0 made 0 due 1");
        faultOf(at + 9, two + "debt 0 1 1000 in 0 made 0 due 1");
        faultOf(at + 9, two + "debt 0 1 0 in 0 made 0 due 1");
        faultOf(at + 11, two + "debt 0 1 1 on 0 made 0 due 1");
        faultOf(at + 14, two + "debt 0 1 1 in 1 made 0 due 1");
        faultOf(at + 16, two + "debt 0 1 1 in 0 due 0 made 1");
        faultOf(at + 21, two + "debt 0 1 1 in 0 made 3 due 1");
        faultOf(at + 27, two + "debt 0 1 1 in 0 made 0 due 0");
        faultOf(at + 27, two + "debt 0 1 1 in 0 made 0 due 3");
        faultOf(at + 28, two + "debt 0 1 1 in 0 made 0 due  ");
        faultOf(three.length() + 19, three + "village 2 1 0;road x");
        faultOf(8, "village 16");
        faultOf(7, "chance 101");
    }

    private static String repeated(String line, int times) {
        StringBuilder text = new StringBuilder(line);
        for (int i = 1; i < times; i++) {
            text.append(';').append(line);
        }
        return text.toString();
    }

    private static void tooMany(DayTables x, String line, int most, int kind) {
        int have = x.count(kind);
        due("4 all of " + line, most, () -> {
            Check.country(x, repeated(line, most - have));
            return x.count(kind);
        });
        due("4 too many of " + line, ARGUMENT, () -> Check.country(x, "feast 1; " + line));
        due("6 fault of too many of " + line, 9, x::fault);
    }

    private static void countryLimits() {
        DayTables x = Check.land("days 3");
        tooMany(x, "village 0 1 2", 6, 0);
        tooMany(x, "person 0 9999", 8, 1);
        tooMany(x, "fact 5 2", 8, 2);
        tooMany(x, "road 5 4 1", 12, 3);
        tooMany(x, "debt 0 7 1 in 0 made 2 due 0", 8, 4);
        tooMany(x, "task 0 0", 8, 5);
        due("4 14 lines", 8, () -> Check.country(x, repeated("feast 1", 14)));
        due("4 15 lines", ARGUMENT, () -> Check.country(x, repeated("feast 1", 15)));
        due("6 the 15th", 14 * 8, x::fault);
        due("4 14 lines and ;", ARGUMENT, () -> Check.country(x, repeated("feast 1", 14) + "; "));
        due("6 more must come", 14 * 8 + 1, x::fault);
        DayTables y = new DayTables();
        due("4 16 days", 1, () -> Check.country(y, "days 16;village 15 14 13 12 11 10 9 8 7 6 5 4 3 2 1 0;feast 15"));
        due("4 day 15", 15, () -> y.day(0, 0));
        due("4 feast 15", 32768, () -> y.count(10));
    }

    private static void lawTexts() {
        DayTables x = Check.land(LAND);
        due("42 no law", -1, () -> x.count(7));
        due("5 empty", 0, x::law);
        due("42 empty law", 0, () -> x.count(7));
        due("5 twelve", 12, () -> Check.law(x, repeated("bar", 12)));
        due("5 thirteen", ARGUMENT, () -> Check.law(x, repeated("bar", 13)));
        due("6 the 13th", 48, x::fault);
        due("5 the law stays", 12, () -> x.count(7));
        due("5 in place of the one before", 1, () -> Check.law(x, " earn 7 "));
        due("5 not barred now", 0, () -> x.rule(0, 0, 0));
        due("5 earns", 7, () -> x.rule(0, 0, 2));
        due("5 six deep", 1, () -> Check.law(x, "bar if not ( not(not(again)))"));
        due("5 six nots", 1, () -> Check.law(x, "bar if not not not not not not again or not again"));
        due("5 no blanks", 1, () -> Check.law(x, "earn 5if day+1<3and(again or feast)"));
        due("6 no fault", -1, x::fault);
    }

    private static void lawFault(int at, String text) {
        DayTables x = Check.land(LAND);
        Check.law(x, "earn 4");
        due("5 wrong: " + text, ARGUMENT, () -> Check.law(x, text));
        due("6 fault of: " + text, at, x::fault);
        due("5 the one before stays", 4, () -> x.rule(0, 0, 2));
    }

    private static void lawFaults() {
        lawFault(0, ";");
        lawFault(0, "days 3");
        lawFault(4, "bar;");
        lawFault(4, "bar 1");
        lawFault(5, "earn 0000");
        lawFault(5, "earn 100");
        lawFault(5, "earn if again");
        lawFault(7, "earn 5 and");
        lawFault(7, "earn 5 i");
        lawFault(7, "bar if if");
        lawFault(11, "bar if day ");
        lawFault(11, "bar if day and 3 < 4");
        lawFault(13, "bar if day < ");
        lawFault(13, "bar if day < again");
        lawFault(13, "bar if day < 1000");
        lawFault(15, "bar if day < 3 < 4");
        lawFault(11, "bar if (day)< 3");
        lawFault(11, "bar if day = 3");
        lawFault(13, "bar if day + ");
        lawFault(15, "bar if again or");
        lawFault(12, "bar if again)");
        lawFault(8, "bar if ()");
        lawFault(31, "bar if not not not not not not not again");
        lawFault(13, "bar if (((((((again)))))))");
        lawFault(19, "bar if not(not(not((again or(again))))) and");
        lawFault(7, "bar if dai < 3");
        lawFault(7, "bar if agai");
    }

    private static int asks(DayTables x, String condition) {
        Check.law(x, "earn 1 if " + condition);
        return x.rule(1, 2, 2);
    }

    private static void lawMeaning() {
        DayTables x = Check.land(LAND);
        x.dawns(5);
        x.tell(1, 0);
        String[] hold = {"person > 0 and person < 2", "village > 1 and village < 3", "day + 1 < page + 3",
            "printing > 0 and printing < 2", "page > 0 and page < 2", "known > 1 and known < 3",
            "lived > 3 and lived < 5", "coins > 9 + 9 and coins < 999", "again", "not feast",
            "feast or again", "feast and feast or again", "again or feast and feast", "not (again and feast)",
            "not feast and again", "1 + 2 + 3 < 4 + 3", "not not again", "0 < 1", "1 > 0"};
        for (String condition : hold) {
            due("5 holds: " + condition, 1, () -> asks(x, condition));
            due("5 not: " + condition, 0, () -> asks(x, "not (" + condition + ")"));
        }
        due("5 no more than", 0, () -> asks(x, "3 < 3"));
        due("5 no less than", 0, () -> asks(x, "3 > 3"));
        Check.law(x, "earn 99;earn 98 if again;earn 1 if feast;bar if feast;bar if day > 1;hush if person > 0;hush if 0 > 1");
        due("15 earns the sum", 197, () -> x.rule(1, 2, 2));
        due("15 a bar that holds", 1, () -> x.rule(0, 2, 0));
        due("15 no bar that holds", 0, () -> x.rule(0, 1, 0));
        due("15 silent", 1, () -> x.rule(1, 0, 1));
        due("15 not silent", 0, () -> x.rule(0, 0, 1));
        due("15 person", INDEX, () -> x.rule(3, 0, 0));
        due("15 village", INDEX, () -> x.rule(0, 3, 7));
        due("15 below", INDEX, () -> x.rule(-1, -1, 0));
        due("15 what", ELEMENT, () -> x.rule(0, 0, 3));
        due("15 what below", ELEMENT, () -> x.rule(0, 0, -1));
        DayTables y = Check.land(LAND);
        due("15 without a law", "0 0 0", () -> y.rule(0, 0, 0) + " " + y.rule(0, 0, 1) + " " + y.rule(0, 0, 2));
    }

    private static void dayPageWhen() {
        DayTables x = Check.land(LAND);
        due("7 day", 3, () -> x.day(1, 2));
        due("7 the last", 2, () -> x.day(1, 1000000));
        due("7 too late", ARGUMENT, () -> x.day(1, 1000001));
        due("7 too early", ARGUMENT, () -> x.day(1, -1));
        due("7 village first", INDEX, () -> x.day(3, -1));
        due("7 village below", INDEX, () -> x.day(-1, 0));
        due("8 page", 3, () -> x.page(2, 0));
        due("8 no day", INDEX, () -> x.page(2, 4));
        due("8 NONE is no day", INDEX, () -> x.page(2, -1));
        due("8 no village", INDEX, () -> x.page(6, 0));
        due("9 now", 7, () -> x.when(0, 3, 7));
        due("9 next", 11, () -> x.when(0, 3, 8));
        due("9 beyond", 1000003, () -> x.when(0, 3, 1000000));
        due("9 too late", ARGUMENT, () -> x.when(0, 3, 1000001));
        due("9 too early", ARGUMENT, () -> x.when(0, 3, -1));
        due("9 no day", INDEX, () -> x.when(0, 4, -1));
        due("9 no village", INDEX, () -> x.when(3, 0, 0));
    }

    private static void rows() {
        DayTables x = Check.land(LAND, "task 0 1 after 0;person 0 3");
        due("10 company", 8, () -> x.person(0, 6));
        due("10 there", "0 -1 -1 10 0 0", () -> x.person(0, 0) + " " + x.person(0, 1) + " " + x.person(0, 2)
            + " " + x.person(0, 3) + " " + x.person(0, 4) + " " + x.person(0, 5));
        x.go(0, 0);
        due("10 on a road", "-1 1 1 0", () -> x.person(0, 0) + " " + x.person(0, 1) + " " + x.person(0, 2)
            + " " + x.person(0, 6));
        x.go(3, 0);
        due("10 two on one road are not together", 0, () -> x.person(3, 6));
        x.dawns(1);
        due("10 arrived", "1 -1 -1 10", () -> x.person(0, 0) + " " + x.person(0, 1) + " " + x.person(0, 2)
            + " " + x.person(0, 6));
        due("10 nobody", INDEX, () -> x.person(4, 9));
        due("10 what", ELEMENT, () -> x.person(0, 7));
        due("10 what below", ELEMENT, () -> x.person(0, -1));
        due("11 road", "1 2 2", () -> x.road(1, 0) + " " + x.road(1, 1) + " " + x.road(1, 2));
        due("11 none", INDEX, () -> x.road(2, 3));
        due("11 what", ELEMENT, () -> x.road(1, 3));
        due("11 what below", ELEMENT, () -> x.road(1, -1));
        due("12 debt", "0 1 5 0 3 1 0", () -> x.debt(0, 0) + " " + x.debt(0, 1) + " " + x.debt(0, 2) + " "
            + x.debt(0, 3) + " " + x.debt(0, 4) + " " + x.debt(0, 5) + " " + x.debt(0, 6));
        due("12 none", INDEX, () -> x.debt(1, 7));
        due("12 what", ELEMENT, () -> x.debt(0, 7));
        due("12 what below", ELEMENT, () -> x.debt(0, -1));
        due("13 task", "0 1 0 -1 -1", () -> x.task(1, 0) + " " + x.task(1, 1) + " " + x.task(1, 2) + " "
            + x.task(1, 3) + " " + x.task(1, 4));
        due("13 none", INDEX, () -> x.task(2, 5));
        due("13 what", ELEMENT, () -> x.task(0, 5));
        due("13 what below", ELEMENT, () -> x.task(0, -1));
        due("14 fact", "0 2", () -> x.fact(0, false) + " " + x.fact(0, true));
        due("14 none", INDEX, () -> x.fact(2, true));
        due("14 below", INDEX, () -> x.fact(-1, true));
    }

    private static void setOut() {
        DayTables x = Check.land(LAND);
        due("16 nobody", INDEX, () -> x.go(3, 0));
        due("16 no road", INDEX, () -> x.go(0, 2));
        due("16 not from there", STATE, () -> x.go(0, 1));
        due("16 back by the other end", 1, () -> x.go(1, 0));
        due("16 on a road", STATE, () -> x.go(1, 0));
        due("16 long", 2, () -> x.go(2, 1));
        due("42 two acts", 2, () -> x.count(19));
        Check.law(x, "bar if day < 1");
        due("16 barred", STATE, () -> x.go(0, 0));
        x.dawns(1);
        due("16 not barred on another day", 2, () -> x.go(0, 0));
        due("16 on the road still", "-1 1 2", () -> x.person(2, 0) + " " + x.person(2, 1) + " " + x.person(2, 2));
        due("16 one on a road lives no day", 0, () -> x.person(2, 4));
        x.dawns(1);
        due("16 there", 1, () -> x.person(2, 0));
        due("16 lives the day of the arrival", 8, () -> x.person(2, 4));
    }

    private static void giving() {
        DayTables x = Check.land("days 3;village 0 1 2;village 0 1 2;road 0 1 1;person 0 5;person 0 9990;person 1 7;person 0 9999");
        due("17 given", 9992, () -> x.give(0, 1, 2));
        due("17 less", 3, () -> x.person(0, 3));
        due("17 all", 9995, () -> x.give(0, 1, 3));
        due("17 not so many", STATE, () -> x.give(0, 1, 1));
        due("17 too many", STATE, () -> x.give(3, 1, 5));
        due("17 up to 9999", 9999, () -> x.give(3, 1, 4));
        due("17 elsewhere", STATE, () -> x.give(2, 1, 1));
        due("17 none", ARGUMENT, () -> x.give(2, 1, 0));
        due("17 above", ARGUMENT, () -> x.give(2, 1, 10000));
        due("17 oneself", ARGUMENT, () -> x.give(2, 2, 1));
        due("17 nobody", INDEX, () -> x.give(4, 4, 0));
        due("17 to nobody", INDEX, () -> x.give(0, -1, 0));
        x.go(0, 0);
        x.go(3, 0);
        due("17 both on one road", STATE, () -> x.give(3, 0, 1));
        due("42 coins of all", 5 + 9990 + 7 + 9999, () -> x.count(11));
    }

    private static void working() {
        DayTables x = Check.land("days 3;village 0 1 2;village 0 1 2;road 0 1 1;person 0 5;person 1 0;"
            + "task 0 0;task 0 0 after 0;task 0 1;task 0 0 after 2");
        due("18 elsewhere", STATE, () -> x.work(1, 0));
        due("18 not ahead of another", STATE, () -> x.work(0, 1));
        due("18 not on that day", STATE, () -> x.work(0, 2));
        due("18 done", 1, () -> x.work(0, 0));
        due("18 once", STATE, () -> x.work(0, 0));
        due("18 after it, on the same dawn", 2, () -> x.work(0, 1));
        due("18 after one that is not done", STATE, () -> x.work(0, 3));
        due("13 who and when", "0 0", () -> x.task(1, 3) + " " + x.task(1, 4));
        x.dawns(1);
        due("18 on its day", 3, () -> x.work(0, 2));
        due("13 when", 1, () -> x.task(2, 4));
        due("42 done", 3, () -> x.count(16));
        x.go(0, 0);
        due("18 on a road", STATE, () -> x.work(0, 3));
        due("18 nobody", INDEX, () -> x.work(2, 0));
        due("18 no task", INDEX, () -> x.work(0, 4));
    }

    private static void telling() {
        DayTables x = Check.land(LAND);
        due("19 new", true, () -> x.tell(2, 1));
        due("19 not new", false, () -> x.tell(2, 1));
        due("19 both are acts", 2, () -> x.count(19));
        due("19 one row", 1, () -> x.count(17));
        due("19 row", "0 2 1 8", () -> x.log(0, 0) + " " + x.log(0, 1) + " " + x.log(0, 2) + " " + x.log(0, 3));
        due("19 knows", 2, () -> x.person(2, 5));
        x.go(2, 1);
        due("19 on a road too", true, () -> x.tell(2, 0));
        due("19 nobody", INDEX, () -> x.tell(3, 0));
        due("19 no fact", INDEX, () -> x.tell(0, 2));
        due("19 no fact below", INDEX, () -> x.tell(0, -1));
    }

    private static void dawnsPass() {
        DayTables x = Check.land(LAND);
        due("20 none", ARGUMENT, () -> x.dawns(0));
        due("20 below", ARGUMENT, () -> x.dawns(-1));
        due("20 above", ARGUMENT, () -> x.dawns(201));
        due("20 refused ones are no acts", "0 0", () -> x.count(8) + " " + x.count(19));
        due("20 two", 2, () -> x.dawns(2));
        due("20 lived", "6 9 6", () -> x.person(0, 4) + " " + x.person(1, 4) + " " + x.person(2, 4));
        due("20 the most", 0, () -> x.dawns(200));
        due("42 time", 202, () -> x.count(8));
        DayTables y = Check.land("days 3;village 0 1 2;person 0 9990;person 0 0");
        Check.law(y, "earn 4 if again;earn 3;earn 90 if coins > 999 and printing + page < 3 and page > 1");
        y.dawns(1);
        due("20 earned ahead of the day's being lived", "9993 3", () -> y.person(0, 3) + " " + y.person(1, 3));
        y.dawns(1);
        due("20 lost", "9999 87", () -> y.person(0, 3) + " " + y.count(14));
        due("20 earned", 15, () -> y.count(13));
        y.dawns(2);
        due("20 again earns more", 6 + 3 + 7, () -> y.person(1, 3));
        due("20 the books", true, () -> y.count(11) == y.count(12) + y.count(13));
    }

    private static void dawnsTalk() {
        String land = "days 3;village 0 1 2;village 0 1 2;person 0 0;person 0 0;person 0 0;person 1 0;fact 0 2;fact 1 0;fact 0 1";
        DayTables x = Check.land(land);
        x.tell(1, 0);
        x.tell(2, 0);
        x.tell(2, 1);
        Check.law(x, "hush if person > 0 and person < 2");
        due("20 told", 3 + 1 + 2, () -> x.dawns(1));
        String[] want = {"1 1 1 2", "1 0 1 2", "1 0 0 2", "1 2 2 9", "1 1 2 9", "1 0 2 9"};
        for (int ago = 0; ago < want.length; ago++) {
            int a = ago;
            due("37 row " + a, want[a], () -> x.log(a, 0) + " " + x.log(a, 1) + " " + x.log(a, 2) + " " + x.log(a, 3));
        }
        due("20 one elsewhere hears nothing", 0, () -> x.person(3, 5));
        DayTables y = Check.land(land);
        y.tell(1, 0);
        y.tell(2, 0);
        y.dawns(1);
        due("20 the least who told", "1 0 0 1", () -> y.log(0, 0) + " " + y.log(0, 1) + " " + y.log(0, 2) + " " + y.log(0, 3));
        DayTables z = Check.land(land);
        z.tell(0, 1);
        Check.law(z, "hush if known > 1");
        z.dawns(1);
        due("20 silent by what is known behind (c)", 4, () -> z.person(1, 5));
        DayTables w = Check.land(land);
        w.tell(0, 1);
        Check.law(w, "hush if person < 1 and not again");
        w.dawns(1);
        due("20 the day has been lived behind (c)", 6, () -> w.person(1, 5));
    }

    private static void dawnsMisprint() {
        DayTables x = Check.land("days 3;village 0 1 2;village 0 1 2");
        x.dawns(2);
        due("20 no draw but on page 0", 1, () -> x.seed(1));
        x.dawns(1);
        int once = 1103515245 + 12345;
        int twice = 1103515245 * once + 12345;
        due("20 a draw of each village, also without chance", twice, () -> x.seed(1));
        due("20 no misprint", "0 1 2", () -> x.day(0, 0) + " " + x.day(0, 1) + " " + x.day(0, 2));
        DayTables y = Check.land("days 16;village 0 1 2 3 4 5 6 7 8 9 10 11 12 13 14 15;chance 100");
        due("38 what it was", 1, () -> y.seed(5));
        y.dawns(16);
        int seed = 5;
        int[] draws = new int[3];
        for (int i = 0; i < 3; i++) {
            seed = 1103515245 * seed + 12345;
            draws[i] = seed >>> 16 & 32767;
        }
        int one = draws[1] % 16;
        int other = draws[2] % 16;
        due("20 two pages change", other + " " + one, () -> y.day(0, one) + " " + y.day(0, other));
        due("38 three draws", seed, () -> y.seed(Integer.MIN_VALUE));
        due("38 any number", Integer.MIN_VALUE, () -> y.seed(0));
    }

    private static void dawnsDebts() {
        DayTables x = Check.land("days 3;village 0 1 2;person 0 3;person 0 9998;debt 0 1 5 in 0 made 2 due 1;"
            + "debt 0 1 2 in 0 made 2 due 0");
        x.dawns(1);
        due("20 due, as much as the other may have", "2 9999 4", () -> x.person(0, 3) + " " + x.person(1, 3) + " " + x.debt(0, 6));
        x.dawns(1);
        due("20 made", "9 9992 4", () -> x.person(0, 3) + " " + x.person(1, 3) + " " + x.debt(0, 6));
        x.dawns(1);
        due("20 due of the other debt alone", "7 9994 0", () -> x.person(0, 3) + " " + x.person(1, 3) + " " + x.debt(1, 6));
        x.give(0, 1, 4);
        x.dawns(1);
        due("12 missed so far", "2 9999 8", () -> x.person(0, 3) + " " + x.person(1, 3) + " " + x.debt(0, 6));
        due("42 missed of all", 8, () -> x.count(15));
        x.dawns(3);
        due("42 missed of all", true, () -> x.count(15) == x.debt(0, 6) + x.debt(1, 6));
        DayTables y = Check.land("days 3;village 0 1 2;village 1 0 2;road 0 1 5;person 0 3;person 0 0;debt 0 1 5 in 1 made 2 due 0");
        y.go(0, 0);
        y.go(1, 0);
        y.dawns(1);
        due("20 wherever both are", "0 3 2", () -> y.person(0, 3) + " " + y.person(1, 3) + " " + y.debt(0, 6));
    }

    private static void soonestAndFirst() {
        DayTables x = Check.land(LAND);
        due("21 nobody", INDEX, () -> x.soonest(3, 0, 0));
        due("21 no village", INDEX, () -> x.soonest(0, 3, 0));
        due("21 no day", INDEX, () -> x.soonest(0, 0, 4));
        due("21 -2 is no day", INDEX, () -> x.soonest(0, 0, -2));
        due("22 nobody", INDEX, () -> x.first(3, 0, 0));
        due("22 no village", INDEX, () -> x.first(0, -1, 0));
        due("22 no day", INDEX, () -> x.first(0, 0, 4));
        x.go(0, 0);
        due("21 on a road, not ahead of being there", 1, () -> x.soonest(0, 1, -1));
        due("21 on a road and on", 3, () -> x.soonest(0, 2, -1));
        due("22 on a road", -1, () -> x.first(0, 2, -1));
        due("21 on a road and back", 2, () -> x.soonest(0, 0, -1));
        DayTables y = Check.land("days 5;village 0 1 2 3 4;village 0 1 2 3 4;village 0 1 2 3 4;village 4 3 2 1 0;"
            + "road 0 2 2;road 0 1 1;road 2 1 1;road 1 0 1;person 0 0");
        due("21 any day", 1, () -> y.soonest(0, 1, -1));
        due("22 the least road of two", 1, () -> y.first(0, 1, -1));
        due("21 on day 4", 4, () -> y.soonest(0, 2, 4));
        due("22 the least road as soon", 0, () -> y.first(0, 2, 4));
        due("21 no way", -1, () -> y.soonest(0, 3, -1));
        due("22 no way", -1, () -> y.first(0, 3, -1));
        due("22 waiting does", -1, () -> y.first(0, 0, 4));
        Check.law(y, "bar if village < 1 and day > 1 and day < 3");
        due("22 barred at the latest time, so a longer wait counts", 4, () -> y.soonest(0, 2, 4));
        due("22 one leaves at 3 by none, at 1 by road 0 or 1", 0, () -> y.first(0, 2, 4));
        Check.law(y, "bar if village < 1 and page + printing < 4");
        due("21 printing counts", 5, () -> y.soonest(0, 1, -1));
        Check.law(y, "bar if coins < 1");
        due("21 barred by coins", -1, () -> y.soonest(0, 1, -1));
        DayTables z = Check.land("days 3;village 0 1 2;village 0 1 2;road 0 1 5;person 0 0");
        Check.law(z, "bar if printing < 65");
        due("21 200 dawns on", 200, () -> z.soonest(0, 1, 2));
        due("22 the road", 0, () -> z.first(0, 1, 2));
        due("21 not 201", -1, () -> z.soonest(0, 1, 0));
        due("22 none", -1, () -> z.first(0, 1, 0));
        due("21 now", 0, () -> z.soonest(0, 0, 0));
        DayTables w = Check.land("days 6;village 0 1 2 3 4 5;village 0 1 2 3 4 5;village 0 1 2 3 4 5;"
            + "road 0 1 3;road 0 2 1;road 2 1 1;person 0 0");
        due("21 by two roads", 2, () -> w.soonest(0, 1, -1));
        due("22 by two roads", 1, () -> w.first(0, 1, -1));
        due("22 waits longest, though road 0 would do", 1, () -> w.first(0, 1, 5));
    }

    private static void meetingAndCone() {
        DayTables x = Check.land(LAND, "village 0 1 2 3;person 3 0;person 0 0");
        due("23 at once", "0 0", () -> x.meeting(0, 4, false) + " " + x.meeting(0, 4, true));
        due("23 never", "-1 -1", () -> x.meeting(0, 3, false) + " " + x.meeting(0, 3, true));
        due("23 oneself", ARGUMENT, () -> x.meeting(1, 1, true));
        due("23 nobody", INDEX, () -> x.meeting(5, 5, true));
        due("23 with nobody", INDEX, () -> x.meeting(0, -1, true));
        x.go(2, 1);
        due("23 one on a road", "2 1", () -> x.meeting(2, 0, false) + " " + x.meeting(2, 0, true));
        due("24 on a road", "0 0 2 3", () -> x.cone(2, 0) + " " + x.cone(2, 1) + " " + x.cone(2, 2) + " " + x.cone(2, 3));
        due("24 all", 7, () -> x.cone(0, 200));
        due("24 alone", 8, () -> x.cone(3, 200));
        due("24 above", ARGUMENT, () -> x.cone(0, 201));
        due("24 below", ARGUMENT, () -> x.cone(0, -1));
        due("24 nobody", INDEX, () -> x.cone(5, -1));
        Check.law(x, "bar if village < 1");
        due("24 barred", 1, () -> x.cone(0, 200));
        due("23 the other one comes", "1 0", () -> x.meeting(0, 1, false) + " " + x.meeting(0, 1, true));
    }

    private static void warnedAndLeast() {
        DayTables x = Check.land("days 3;village 0 1 2;village 0 1 2;village 0 1 2;village 0 1 2;"
            + "road 0 1 2;road 1 2 1;person 0 0;person 1 0;person 2 0;person 3 0;person 0 0");
        due("25 those there", 17, () -> x.warned(0, 0));
        due("25 by two", 19, () -> x.warned(0, 2));
        due("25 by three", 23, () -> x.warned(0, 3));
        due("25 never the one beyond", 23, () -> x.warned(0, 200));
        due("25 above", ARGUMENT, () -> x.warned(0, 201));
        due("25 below", ARGUMENT, () -> x.warned(0, -1));
        due("25 nobody", INDEX, () -> x.warned(5, -1));
        due("26 now", 15, () -> x.least(0));
        due("26 by one", 11, () -> x.least(1));
        due("26 by two", 10, () -> x.least(2));
        due("26 by three", 9, () -> x.least(3));
        due("26 above", ARGUMENT, () -> x.least(201));
        due("26 below", ARGUMENT, () -> x.least(-1));
        Check.law(x, "bar if person < 1 or person > 3;hush");
        due("25 barred and silent: one who was told goes not", 17, () -> x.warned(0, 200));
        due("25 another one goes", 23, () -> x.warned(1, 3));
        x.law();
        x.go(2, 1);
        x.go(4, 0);
        due("25 not ahead of when they are there", "2 6 6 23", () -> x.warned(1, 0) + " " + x.warned(1, 1) + " "
            + x.warned(2, 1) + " " + x.warned(1, 2));
        due("25 on a road tells nobody till there", "16 16 23", () -> x.warned(4, 0) + " " + x.warned(4, 1)
            + " " + x.warned(4, 4));
        Check.law(x, "bar if person < 1 or person > 0");
        due("25 who is told goes on then: none may", 22, () -> x.warned(4, 200));
    }

    private static void knewThen() {
        DayTables x = Check.land(LAND);
        x.tell(0, 1);
        x.dawns(3);
        due("27 before", 2, () -> x.knew(0, 1));
        due("27 then", 3, () -> x.knew(0, 2));
        due("27 later", 3, () -> x.knew(0, Integer.MAX_VALUE));
        due("27 another one", "0 2", () -> x.knew(1, 1) + " " + x.knew(1, 2));
        due("27 below", ARGUMENT, () -> x.knew(0, -1));
        due("27 nobody", INDEX, () -> x.knew(3, -1));
    }

    private static void likeness() {
        DayTables x = Check.land("days 5;village 0 1 2 3 4;village 4 0 1 2 3;village 0 1 2 4 3;village 1 2 0 4 3");
        due("28 pages", "0 3 2", () -> x.alike(0, 1, false) + " " + x.alike(0, 2, false) + " " + x.alike(2, 3, false));
        due("28 shift of the second one's pages", "1 4", () -> x.alike(0, 1, true) + " " + x.alike(1, 0, true));
        due("28 no shift", 0, () -> x.alike(0, 2, true));
        due("28 none", INDEX, () -> x.alike(0, 4, true));
        due("28 none ahead", INDEX, () -> x.alike(-1, 0, true));
        due("29 touch", "1 4", () -> x.touch(0, 2, false) + " " + x.touch(0, 2, true));
        due("29 touch by 3", "0 2", () -> x.touch(3, 3, false) + " " + x.touch(3, 4, true));
        due("29 none", "0 -1", () -> x.touch(0, 7, false) + " " + x.touch(0, 7, true));
        due("29 w", ARGUMENT, () -> x.touch(0, 1, true));
        due("29 w above", ARGUMENT, () -> x.touch(0, 8, true));
        due("29 no village", INDEX, () -> x.touch(4, 8, true));
        DayTables y = Check.land("days 6;village 0 1 2 3 4 5;village 0 2 4 1 3 5;village 0 3 1 4 2 5");
        due("30 round", "2 3 6", () -> y.round(0, 2) + " " + y.round(0, 3) + " " + y.round(0, 4));
        due("30 no less", "6 6", () -> y.round(1, 2) + " " + y.round(2, 3));
        due("30 w", ARGUMENT, () -> y.round(0, 1));
        due("30 w above", ARGUMENT, () -> y.round(0, 8));
        due("30 no village", INDEX, () -> y.round(3, 1));
    }

    private static Object clued(DayTables x, boolean bread, int... clues) {
        Check.feed(x, Check.bytes(clues));
        return bread ? x.bread() : x.tables();
    }

    private static void breadAndTables() {
        DayTables x = Check.land(LAND);
        due("31 none told", 7, () -> clued(x, true));
        due("31 one", 1, () -> clued(x, true, 3, 0, 3));
        due("31 two that do not fit", 0, () -> clued(x, true, 3, 0, 3, 0, 3, 0));
        due("31 of itself", 7, () -> clued(x, true, 3, 3, 0));
        due("31 A", ARGUMENT, () -> clued(x, true, 4, 0, 0));
        due("31 B", ARGUMENT, () -> clued(x, true, 0, 255, 0));
        due("31 K", ARGUMENT, () -> clued(x, true, 0, 0, 4));
        due("31 four bytes", ARGUMENT, () -> clued(x, true, 0, 0, 0, 0));
        due("32 four bytes", ARGUMENT, () -> clued(x, false, 0, 0, 0, 0));
        due("32 K", ARGUMENT, () -> clued(x, false, 0, 0, 4));
        due("32 none told", 6, () -> clued(x, false));
        due("32 two on one page", 0, () -> clued(x, false, 1, 2, 0));
        due("32 two on one page by two clues", 0, () -> clued(x, false, 1, 2, 1, 3, 2, 1));
        due("32 a chain", 1, () -> clued(x, false, 1, 2, 1, 2, 3, 1));
        due("32 a chain that does not close", 0, () -> clued(x, false, 1, 2, 1, 2, 3, 1, 3, 1, 1));
        due("32 a chain that closes", 1, () -> clued(x, false, 1, 2, 1, 2, 3, 1, 3, 1, 2));
        DayTables nine = Check.land("days 9");
        due("32 nine", 40320, () -> clued(nine, false));
        due("32 nine, in pairs side by side", 24, () -> clued(nine, false, 1, 2, 1, 3, 4, 1, 5, 6, 1, 7, 8, 1));
        due("32 all bound", 1, () -> clued(nine, false, 1, 0, 1, 2, 1, 1, 3, 2, 1, 4, 3, 1, 5, 4, 1, 6, 5, 1, 7, 6, 1, 8, 7, 1));
        DayTables ten = Check.land("days 10");
        due("32 ten", -3, () -> clued(ten, false));
        due("32 ten, but wrong", ARGUMENT, () -> clued(ten, false, 10, 0, 0));
        due("32 used up", 20, () -> ten.feed(0, 0, 0, 0, 0));
    }

    private static void earlyAndNetted() {
        DayTables x = Check.land("days 4;village 3 1 0 2;person 0 0;person 0 0;person 0 0;person 0 0;person 0 0",
            "debt 0 1 5 in 0 made 2 due 3;debt 1 2 5 in 0 made 3 due 0;debt 3 4 7 in 0 made 1 due 0");
        due("33 early", "3 -2 -1", () -> x.early(0) + " " + x.early(1) + " " + x.early(2));
        due("33 none", INDEX, () -> x.early(3));
        due("33 below", INDEX, () -> x.early(-1));
        due("34 balances", "-5 0 5 -7 7", () -> x.netted(0) + " " + x.netted(1) + " " + x.netted(2) + " " + x.netted(3)
            + " " + x.netted(4));
        due("34 payments", 2, () -> x.netted(-1));
        Check.country(x, "debt 0 3 2 in 0 made 1 due 0");
        due("34 balances now", "-7 -5", () -> x.netted(0) + " " + x.netted(3));
        due("34 other pairs", 2, () -> x.netted(-1));
        Check.country(x, "debt 1 4 1 in 0 made 1 due 0");
        due("34 no pairs but one", 3, () -> x.netted(-1));
        due("34 nobody", INDEX, () -> x.netted(5));
        due("34 -2", INDEX, () -> x.netted(-2));
        DayTables y = Check.land("days 3;village 0 1 2;person 0 0;person 0 0;debt 0 1 9 in 0 made 0 due 1;debt 1 0 9 in 0 made 0 due 1");
        due("34 even", 0, () -> y.netted(-1));
        DayTables z = Check.land("days 3;village 0 1 2;person 0 0;person 0 0;person 0 0;debt 0 1 1 in 0 made 0 due 1;debt 0 2 1 in 0 made 0 due 1");
        due("34 one each", 2, () -> z.netted(-1));
    }

    private static void feastsLived() {
        DayTables x = Check.land(LAND);
        due("35 none", ARGUMENT, () -> x.feasted(0, 0));
        due("35 above", ARGUMENT, () -> x.feasted(0, 61));
        due("35 nobody", INDEX, () -> x.feasted(3, 0));
        due("35 now counts not", "0 1", () -> x.feasted(2, 1) + " " + x.feasted(1, 2));
        due("35 sixty", 30, () -> x.feasted(0, 60));
        x.go(0, 0);
        due("35 on a road", "0 1 2", () -> x.feasted(0, 1) + " " + x.feasted(0, 2) + " " + x.feasted(0, 3));
        Check.law(x, "bar");
        due("35 barred", "1 15", () -> x.feasted(0, 3) + " " + x.feasted(1, 60));
        DayTables y = Check.land("days 3;village 0 1 2;village 0 1 2;road 0 1 5;feast 0;feast 1;feast 2;person 0 0");
        due("35 each dawn", 60, () -> y.feasted(0, 60));
        y.go(0, 0);
        due("35 but for those on a road", "0 0 1", () -> y.feasted(0, 3) + " " + y.feasted(0, 4) + " " + y.feasted(0, 5));
    }

    private static String planned(DayTables x, int person, int tasks) {
        return x.plan(person, tasks, false) + " " + x.plan(person, tasks, true);
    }

    private static void plans() {
        DayTables x = Check.land("days 4;village 0 1 2 3;village 2 0 3 1;road 0 1 1;person 0 0;person 1 0;village 0 1 2 3",
            "task 0 0;task 0 0;task 1 0 after 1;task 1 3;task 2 0;task 0 3;task 0 2");
        due("36 nobody", INDEX, () -> x.plan(2, 0, true));
        due("36 no task", "0 -1", () -> planned(x, 0, 0));
        due("36 none of these are", "0 -1", () -> planned(x, 0, 128 << 3));
        due("36 now", "0 0", () -> planned(x, 0, 1));
        due("36 one a dawn", "4 0", () -> planned(x, 0, 3));
        due("36 after one that is not asked", "-1 -1", () -> planned(x, 0, 4));
        due("36 after", "1 1", () -> planned(x, 0, 6));
        due("36 the best order starts with 1", "4 1", () -> planned(x, 0, 7));
        due("36 no way", "-1 -1", () -> planned(x, 0, 16));
        due("36 too many", "-3 -3", () -> planned(x, 0, 63));
        due("36 five", "4 1", () -> planned(x, 0, 1 | 2 | 4 | 8 | 32));
        x.work(0, 1);
        due("36 those done count for nothing", "-3 -1", () -> x.plan(0, 127, false) + " " + x.plan(0, 2, true));
        due("36 after one that is done", "1 2", () -> planned(x, 0, 6));
        due("36 five not done", "-1 -1", () -> planned(x, 0, 127 & ~32));
        x.go(0, 0);
        due("36 on a road", "1 2", () -> planned(x, 0, 4));
        due("36 on a road back", "4 0", () -> planned(x, 0, 1));
        Check.law(x, "bar if printing < 24");
        due("36 late", "100 0", () -> planned(x, 1, 1));
        Check.law(x, "bar if printing < 99");
        due("36 by 400", "400 0", () -> planned(x, 1, 1));
        due("36 in the order that is soonest", "400 6", () -> planned(x, 1, 1 | 64));
        Check.law(x, "bar if printing < 100");
        due("36 not within 400", "-1 -1", () -> planned(x, 1, 64));
        x.dawns(1);
        due("36 nor when it is the 401st", "-1 -1", () -> planned(x, 1, 64));
        x.dawns(1);
        due("36 within 400 from now", "402 6", () -> planned(x, 1, 64));
        due("36 not yet", "-1 -1", () -> planned(x, 1, 1 | 64));
    }

    private static void logged() {
        DayTables x = Check.land("days 3;village 0 1 2;person 0 0;person 0 0;fact 0 1;fact 0 1");
        x.dawns(1);
        due("37 rows", 4, () -> x.count(17));
        String[] want = {"1 1 1 9", "1 1 0 9", "1 0 1 9", "1 0 0 9", "-1 -1 -1 -1"};
        for (int ago = 0; ago < want.length; ago++) {
            int a = ago;
            due("37 row " + a, want[a], () -> x.log(a, 0) + " " + x.log(a, 1) + " " + x.log(a, 2) + " " + x.log(a, 3));
        }
        due("37 below", -1, () -> x.log(-1, 0));
        due("37 what", ELEMENT, () -> x.log(0, 4));
        due("37 what without a row", ELEMENT, () -> x.log(99, -1));
    }

    private static void undone() {
        DayTables x = Check.land(LAND, "chance 90;person 0 50;task 0 0;fact 0 1");
        Check.law(x, "earn 9");
        due("39 none", false, x::undo);
        String start = Check.all(x);
        x.give(0, 3, 4);
        String given = Check.all(x);
        x.work(0, 1);
        x.tell(1, 1);
        x.go(0, 0);
        String gone = Check.all(x);
        x.dawns(17);
        x.seed(77);
        due("39 five", 5, () -> x.count(19));
        due("39 dawns of one call", true, x::undo);
        due("39 as ahead of the dawns, the seed too", gone, () -> Check.all(x));
        due("39 going", "true 0", () -> x.undo() + " " + x.person(0, 0));
        due("39 telling", "true 0", () -> x.undo() + " " + x.person(1, 5));
        due("39 working", given, () -> x.undo() ? Check.all(x) : "");
        due("39 giving", start, () -> x.undo() ? Check.all(x) : "");
        due("39 no more", false, x::undo);
        DayTables z = Check.land(LAND, "chance 90;person 0 50;task 0 0;fact 0 1");
        for (int i = 0; i < 14; i++) {
            z.dawns(1);
        }
        due("42 twelve are remembered", 12, () -> z.count(19));
        for (int time = 13; time > 1; time--) {
            due("39 undo", true, z::undo);
            due("39 one dawn back", time, () -> z.count(8));
        }
        due("39 the oldest are not", false, z::undo);
        due("39 time", 2, () -> z.count(8));
        z.dawns(1);
        due("39 refused acts are none", 1, () -> {
            Check.said(() -> z.give(0, 0, 1));
            Check.said(() -> z.go(0, 1));
            Check.said(() -> z.work(0, 0));
            Check.said(() -> z.tell(0, 9));
            Check.said(() -> z.dawns(0));
            Check.said(() -> Check.country(z, "x"));
            Check.said(() -> Check.law(z, "x"));
            return z.count(19);
        });
        Check.law(z, "");
        due("39 a law: none", 0, () -> z.count(19));
        z.dawns(1);
        Check.country(z, "");
        due("39 a text: none", false, z::undo);
        DayTables y = Check.land(LAND);
        y.dawns(1);
        Check.feed(y, Check.bytes("feast 1"));
        y.undo();
        due("39 the tape stays", 3, () -> {
            y.country();
            return 3;
        });
        Check.said(() -> Check.law(y, "x y"));
        y.tell(0, 0);
        y.image();
        y.undo();
        due("39 fault stays", 0, y::fault);
        due("39 the image stays", true, () -> y.back() && y.person(0, 5) == 1);
    }

    private static void images() {
        DayTables x = Check.land(LAND);
        due("41 none kept", false, x::back);
        x.image();
        String then = Check.all(x);
        x.dawns(9);
        Check.country(x, "feast 0;person 1 5;road 0 2 3;chance 50;misprint 0 1 2;task 0 0;fact 2 2;village 1 0 2 3");
        Check.law(x, "earn 5;bar");
        x.dawns(9);
        Check.said(() -> Check.law(x, "bar x"));
        due("40 undo is left", 1, () -> x.count(19));
        Check.feed(x, Check.bytes("feast 2"));
        due("41 back", true, x::back);
        due("41 all is as it was", then, () -> Check.all(x));
        due("41 no act can be undone", false, x::undo);
        due("41 fault stays", 4, x::fault);
        due("41 the tape stays", 2, x::country);
        due("41 it was used", 12, () -> x.count(10));
        due("41 back once more", true, x::back);
        due("41 all is as it was once more", then, () -> Check.all(x));
        x.dawns(1);
        x.image();
        due("40 acts can be undone still", 1, () -> x.count(19));
        x.undo();
        due("41 the later image", 1, () -> x.back() ? x.count(8) : -9);
    }

    private static void counts() {
        DayTables x = Check.land(LAND);
        int[] want = {3, 3, 2, 2, 1, 1, 1, -1, 0, 4, 8, 30, 30, 0, 0, 0, 0, 0, 0, 0};
        for (int what = 0; what < want.length; what++) {
            int w = what;
            due("42 count " + w, want[w], () -> x.count(w));
        }
        due("42 another what", -1, () -> x.count(20));
        due("42 below", -1, () -> x.count(-1));
        due("42 far", -1, () -> x.count(Integer.MIN_VALUE));
    }
}
