import java.util.ArrayList;
import java.util.List;

/** Edges of a new object, of the TAPE, and of both kinds of text: promises 1 to 6. */
final class EdgesOfTexts {
    private static final String THREE = "days 3;village 0 1 2;village 1 2 0;village 2 0 1";
    private static final String THEY = "person 0 5;person 1 6;person 2 7";
    private static final String DUTIES = "fact 0 0;road 0 1 1;task 0 0;task 1 1;debt 0 1 5 in 0 made 0 due 1";

    private final Sentences s;

    EdgesOfTexts(Sentences s) {
        this.s = s;
    }

    void all() {
        newObject();
        nothingThere();
        feeding();
        cutting();
        usedUp();
        textsAtMost();
        linesAtMost();
        numbersOfCountry();
        numbersOfLaw();
        digits();
        placesInLines();
        placesInLaws();
        thereByThen();
        theLatterIsWrong();
        daysAtFirst();
        tables();
        tooMany();
        words();
        blanks();
        noLine();
        deep();
        lawInPlace();
        lawHolds();
        misprints();
        nothingStays();
        faults();
    }

    // ---- what is asked of many texts

    private static int told(DayTables x, boolean law, String text) {
        return law ? Check.law(x, text) : Check.country(x, text);
    }

    /** A text that is wrong at this byte, on an object that knows acts, a law and a text already. */
    private void wrong(boolean law, int at, String text, String... ahead) {
        DayTables x = Check.land(ahead);
        Check.law(x, "earn 4;bar if day > 1");
        if (x.count(1) > 0) {
            x.dawns(1);
        }
        int acts = x.count(19);
        String before = Check.all(x);
        s.due("wrong: " + text, Sentences.ARGUMENT, () -> told(x, law, text));
        s.due("first wrong byte of: " + text, at, x::fault);
        s.due("nothing of: " + text, before, () -> Check.all(x));
        s.due("acts behind: " + text, acts, () -> x.count(19));
        if (x.count(1) > 0) {
            s.due("the law behind: " + text, 4, () -> x.rule(0, 0, 2));
        }
    }

    private void right(boolean law, String text, String... ahead) {
        DayTables x = Check.land(ahead);
        s.due("right: " + text, law ? linesOf(text) : ahead.length + 1, () -> told(x, law, text));
        s.due("no wrong byte: " + text, -1, x::fault);
    }

    private static int linesOf(String text) {
        return text.isBlank() ? 0 : (int) text.chars().filter(c -> c == ';').count() + 1;
    }

    private static String repeated(String line, int times) {
        StringBuilder text = new StringBuilder();
        for (int i = 0; i < times; i++) {
            text.append(i == 0 ? "" : ";").append(line);
        }
        return text.toString();
    }

    // ---- promise 1

    private void newObject() {
        s.holds(1, "Nothing told.");
        DayTables x = new DayTables();
        for (int what = 0; what < 6; what++) {
            int w = what;
            s.due("count " + w, 0, () -> x.count(w));
        }
        s.due("no text", 0, () -> x.count(6));
        s.due("no law", -1, () -> x.count(7));
        s.due("no coins", "0 0 0 0 0", () -> x.count(11) + " " + x.count(12) + " " + x.count(13) + " " + x.count(14)
            + " " + x.count(15));
        s.due("no task done, no row, no act", "0 0 0", () -> x.count(16) + " " + x.count(17) + " " + x.count(19));
        s.due("no fault", -1, x::fault);
        s.due("no act", false, x::undo);
        s.due("no image", false, x::back);
        s.due("no tape", false, () -> x.end(1));
        s.holds(1, "(D 3 to 16; 7 at first)");
        s.due("D", 7, () -> x.count(9));
        s.holds(1, "TIME: 0 at first.");
        s.due("TIME", 0, () -> x.count(8));
        s.holds(1, "FEASTS: DAYS, as bits (none at first).");
        s.due("FEASTS", 0, () -> x.count(10));
        s.holds(1, "CHANCE of a misprint: 0 to 100 (0 at first).");
        s.due("CHANCE", 0, () -> x.count(18));
        s.holds(1, "(SEED 1 at first)");
        s.due("SEED", 1, () -> x.seed(1));
    }

    private void nothingThere() {
        s.holds(1, "IndexOutOfBoundsException: there is no such VILLAGE, PERSON, FACT, ROAD, DEBT, TASK, DAY.");
        DayTables x = new DayTables();
        Check.Call[] calls = {() -> x.day(0, 0), () -> x.page(0, 0), () -> x.when(0, 0, 0), () -> x.person(0, 0),
            () -> x.road(0, 0), () -> x.debt(0, 0), () -> x.task(0, 0), () -> x.fact(0, false), () -> x.rule(0, 0, 0),
            () -> x.go(0, 0), () -> x.give(0, 1, 1), () -> x.work(0, 0), () -> x.tell(0, 0), () -> x.soonest(0, 0, 0),
            () -> x.first(0, 0, 0), () -> x.meeting(0, 1, false), () -> x.cone(0, 0), () -> x.warned(0, 0),
            () -> x.knew(0, 0), () -> x.alike(0, 0, false), () -> x.touch(0, 2, false), () -> x.round(0, 2),
            () -> x.early(0), () -> x.netted(0), () -> x.feasted(0, 1), () -> x.plan(0, 0, false)};
        for (int i = 0; i < calls.length; i++) {
            s.due("on a new object, call " + i, Sentences.INDEX, calls[i]);
        }
        s.due("but nobody is to be told", 0, () -> x.least(0));
        s.due("no payments", 0, () -> x.netted(-1));
        s.due("no village fits", 0, x::bread);
        s.due("a dawn of nobody", 0, () -> x.dawns(1));
    }

    // ---- promises 2 and 3

    private void feeding() {
        s.holds(2, "of each number the highest first: how many it has");
        DayTables x = new DayTables();
        s.due("twenty", 20, () -> x.feed(0x66656173, 0x74203120, 0x20202020, 0x20202020, 0x20202020));
        s.due("feast 1", 1, x::country);
        s.due("feast 1 is told", 2, () -> x.count(10));
        s.due("twenty again", 20, () -> x.feed(0x20202020, 0x20202020, 0x20202020, 0x66656173, 0x74203321));
        s.due("a sign that is none", Sentences.ARGUMENT, x::country);
        s.due("the fifth number's lowest byte is the last", 19, x::fault);
        s.due("a byte above 127", 20, () -> x.feed(0x000000FF, 0, 0, 0, 0));
        s.due("three bytes", true, () -> x.end(3));
        s.due("of number 0", 720, x::tables);
        s.due("the fourth byte", 20, () -> x.feed(0x000000FF, 0, 0, 0, 0));
        s.due("six bytes", true, () -> x.end(6));
        s.due("is 255", Sentences.ARGUMENT, x::tables);
        s.holds(2, "Twenty bytes come behind the TAPE");
        DayTables y = new DayTables();
        Check.feed(y, Check.bytes("feast 1;"));
        s.due("behind eight", 28, () -> y.feed(0x66656173, 0x74203200, 0, 0, 0));
        s.due("cut", true, () -> y.end(15));
        s.due("both are read", 1, y::country);
        s.due("both are told", 6, () -> y.count(10));
        s.holds(2, "NONE, and none come, if it would have more than 400");
        DayTables z = new DayTables();
        for (int many = 20; many <= 400; many += 20) {
            int have = many;
            s.due("feed", have, () -> z.feed(-1, -1, -1, -1, -1));
        }
        s.due("420", -1, () -> z.feed(0, 0, 0, 0, 0));
        s.due("400 there", true, () -> z.end(400));
        s.due("no more there", false, () -> z.end(401));
        z.end(381);
        s.due("401", -1, () -> z.feed(0, 0, 0, 0, 0));
        s.due("381 there", "false true", () -> z.end(382) + " " + z.end(381));
        z.end(380);
        s.due("400 again", 400, () -> z.feed(0, 0, 0, 0, 0));
        s.due("read", Sentences.ARGUMENT, z::country);
        s.due("from nothing", 20, () -> z.feed(0, 0, 0, 0, 0));
    }

    private void cutting() {
        s.holds(3, "The TAPE has its first n bytes alone: true; false, and nothing happens, if it has fewer, or n is below 0.");
        DayTables x = new DayTables();
        s.dues("empty", "false false true", () -> x.end(-1), () -> x.end(1), () -> x.end(0));
        x.feed(0x66656173, 0x74203020, 0x3B206665, 0x61737420, 0x31000000);
        s.dues("nothing happens", "false false false false", () -> x.end(21), () -> x.end(-1),
            () -> x.end(Integer.MIN_VALUE), () -> x.end(Integer.MAX_VALUE));
        s.due("as many as it has", true, () -> x.end(20));
        s.due("fewer", true, () -> x.end(17));
        s.due("what is cut is gone", false, () -> x.end(18));
        s.due("the first bytes are there", 1, x::country);
        s.due("both lines", 3, () -> x.count(10));
        Check.feed(x, Check.bytes("feast 2"));
        s.due("to none", true, () -> x.end(0));
        s.due("an empty text", 2, x::country);
        s.due("nothing of what was cut", 3, () -> x.count(10));
    }

    private void usedUp() {
        s.holds(4, "Uses the TAPE up: a text of THE COUNTRY");
        DayTables x = new DayTables();
        Check.country(x, "feast 1");
        s.due("by a right text", false, () -> x.end(1));
        Check.said(() -> Check.country(x, "feast x"));
        s.due("by a wrong text", false, () -> x.end(1));
        s.due("an empty one behind it is right", 2, x::country);
        s.holds(5, "Uses the TAPE up: THE LAW");
        Check.law(x, "bar");
        s.due("by a right law", false, () -> x.end(1));
        Check.said(() -> Check.law(x, "bar x"));
        s.due("by a wrong law", false, () -> x.end(1));
        s.due("an empty one behind it is right", 0, x::law);
    }

    // ---- promise 4: how many

    private void textsAtMost() {
        s.holds(4, "THE COUNTRY is told in texts (at most 12, one behind another)");
        DayTables x = Check.land("days 3;village 0 1 2;person 0 5", "fact 0 1");
        for (int texts = 3; texts <= 12; texts++) {
            s.due("text", texts, () -> Check.country(x, "feast 1"));
        }
        s.due("twelve", 12, () -> x.count(6));
        s.holds(4, "UnsupportedOperationException: there are 12.");
        x.tell(0, 0);
        String before = Check.all(x);
        s.due("a 13th", Sentences.UNSUPPORTED, () -> Check.country(x, "feast 2;person 0 5;misprint 0 0 1;chance 9"));
        s.due("nothing of it", before, () -> Check.all(x));
        s.due("the acts stay", 1, () -> x.count(19));
        s.due("an empty 13th", Sentences.UNSUPPORTED, x::country);
        s.holds(4, "IllegalArgumentException: it is wrong; UnsupportedOperationException: there are 12.");
        s.due("a wrong 13th", Sentences.ARGUMENT, () -> Check.country(x, "feast 2;feast 3"));
        s.due("nothing of it", before, () -> Check.all(x));
        s.holds(4, "changes nothing but the TAPE, where it is used up, and fault(), where a text is read (also by one that is refused)");
        s.due("fault of a wrong 13th", 14, x::fault);
        s.due("refused", Sentences.UNSUPPORTED, () -> Check.country(x, "feast 2"));
        s.due("fault of a refused one", -1, x::fault);
        s.due("the tape is used up", false, () -> x.end(1));
        s.due("the acts stay", true, x::undo);
        s.due("a law may come", 1, () -> Check.law(x, "bar"));
    }

    private void linesAtMost() {
        s.holds(4, "LINE { ; LINE }, at most 14: days D");
        right(false, "feast 1");
        right(false, repeated("feast 1", 13));
        right(false, repeated("feast 1", 14));
        wrong(false, 14 * 8, repeated("feast 1", 15));
        wrong(false, 14 * 8, repeated("feast 1", 14) + ";9");
        wrong(false, 14 * 8 + 2, repeated("feast 1", 14) + ";  feast 1");
        wrong(false, 14 * 8, repeated("feast 1", 14) + ";");
        s.holds(5, "LINE { ; LINE }, at most 12: bar [ if C ]");
        right(true, "bar");
        right(true, repeated("hush", 11));
        right(true, repeated("earn 9", 12));
        wrong(true, 12 * 4, repeated("bar", 13));
        wrong(true, 12 * 4 + 1, repeated("bar", 12) + "; bar");
        s.holds(5, "how many LINES");
        DayTables x = new DayTables();
        s.dues("none, one, twelve", "0 1 12", () -> Check.law(x, ""), () -> Check.law(x, "bar"),
            () -> Check.law(x, repeated("bar", 12)));
        s.holds(4, "how many texts there are");
        s.dues("one, two", "1 2", () -> Check.country(x, "feast 1;feast 2"), () -> Check.country(x, "feast 3"));
    }

    // ---- numbers

    /** A number in the place of #: the least and the greatest are right, the ones beyond are wrong there. */
    private void number(boolean law, int low, int high, String line, String... ahead) {
        int digits = law ? 3 : 4;
        int at = line.indexOf('#');
        right(law, line.replace("#", "" + low), ahead);
        right(law, line.replace("#", "" + high), ahead);
        right(law, line.replace("#", padded(low, digits)), ahead);
        right(law, line.replace("#", padded(high, digits)), ahead);
        wrong(law, at, line.replace("#", padded(low, digits + 1)), ahead);
        wrong(law, at, line.replace("#", "" + (high + 1)), ahead);
        wrong(law, at, line.replace("#", "" + (4294967296L + low)), ahead);
        wrong(law, at, line.replace("#", "18446744073709551616"), ahead);
        if (low > 0) {
            wrong(law, at, line.replace("#", "" + (low - 1)), ahead);
            wrong(law, at, line.replace("#", "0"), ahead);
        }
        wrong(law, at, line.replace("#", "-1"), ahead);
        wrong(law, at, line.replace("#", "x"), ahead);
        wrong(law, at, line.substring(0, at), ahead);
    }

    private static String padded(int number, int digits) {
        StringBuilder text = new StringBuilder("" + number);
        while (text.length() < digits) {
            text.insert(0, '0');
        }
        return text.toString();
    }

    private void numbersOfCountry() {
        String[] land = {THREE, THEY, DUTIES};
        s.holds(4, "DAYS: 0 to D less 1 (D 3 to 16; 7 at first).");
        number(false, 3, 16, "days #");
        number(false, 0, 6, "feast #");
        number(false, 0, 2, "feast #", "days 3");
        number(false, 0, 15, "feast #", "days 16");
        number(false, 0, 2, "fact 0 #", land);
        number(false, 0, 2, "task 0 #", land);
        number(false, 0, 2, "misprint 0 # 1", land);
        number(false, 0, 2, "misprint 0 1 #", land);
        number(false, 0, 2, "debt 0 1 5 in 0 made # due 1", THREE, THEY);
        number(false, 0, 2, "debt 0 1 5 in 0 made 1 due #", THREE, THEY);
        s.holds(4, "COINS, all numbers are of 1 to 4 digits (N of person 0 to 9999, of debt 1 to 999).");
        number(false, 0, 9999, "person 0 #", THREE);
        number(false, 1, 999, "debt 0 1 # in 0 made 0 due 1", THREE, THEY);
        s.holds(4, "LONG 1 to 5 dawns");
        number(false, 1, 5, "road 0 1 #", THREE);
        s.holds(4, "CHANCE of a misprint: 0 to 100 (0 at first).");
        number(false, 0, 100, "chance #");
        s.holds(4, "V, P, T: one that there is by then");
        number(false, 0, 2, "person # 0", THREE);
        number(false, 0, 2, "fact # 0", THREE);
        number(false, 0, 2, "task # 0", THREE);
        number(false, 0, 2, "misprint # 0 1", THREE);
        number(false, 0, 2, "debt 0 1 5 in # made 0 due 1", THREE, THEY);
        number(false, 0, 1, "task 0 0 after #", THREE, THEY, DUTIES);
        number(false, 0, 2, "road # 1 1", THREE);
        number(false, 0, 2, "road 1 # 1", THREE);
        number(false, 0, 2, "debt # 1 5 in 0 made 0 due 1", THREE, THEY);
        number(false, 0, 2, "debt 1 # 5 in 0 made 0 due 1", THREE, THEY);
    }

    private void numbersOfLaw() {
        s.holds(5, "All numbers are of 1 to 3 digits here (N of earn 0 to 99).");
        String[] land = {THREE, THEY};
        number(true, 0, 99, "earn #", land);
        number(true, 0, 99, "earn # if again", land);
        number(true, 0, 999, "bar if # < day", land);
        number(true, 0, 999, "bar if day > #", land);
        number(true, 0, 999, "hush if day + # > page", land);
        number(true, 0, 999, "earn 5 if 3 < day + # + 7 or again", land);
    }

    private void digits() {
        s.holds(6, "a number of more digits, or out of its bounds, or that tells none that can be");
        wrong(false, 5, "days 00003");
        wrong(false, 5, "days 17");
        wrong(false, 6, "feast 7");
        wrong(true, 5, "earn 0001", THREE, THEY);
        wrong(true, 5, "earn 100", THREE, THEY);
        wrong(true, 7, "bar if 1000 < day", THREE, THEY);
        s.holds(6, "The first wrong byte: the begin of the first thing that cannot stand there");
        wrong(false, 6, "feast 9;feast 9");
        wrong(false, 7, "feast  9");
        wrong(false, 8, "feast 1 9");
        wrong(false, 7, "feast 1x");
        wrong(false, 8, "feast 1;x");
        wrong(false, 7, "feast 1,feast 2");
    }

    // ---- places

    /** Each thing of a line replaced, and each begin of the line alone; | stands behind what may be all. */
    private void places(boolean law, String line, String... ahead) {
        List<String> things = new ArrayList<>();
        List<Boolean> ends = new ArrayList<>();
        for (String thing : line.split(" ")) {
            if (thing.equals("|")) {
                ends.set(ends.size() - 1, true);
            } else {
                things.add(thing);
                ends.add(false);
            }
        }
        StringBuilder begin = new StringBuilder();
        for (int i = 0; i < things.size(); i++) {
            if (i > 0 && ends.get(i - 1)) {
                right(law, begin.toString().trim(), ahead);
                right(law, begin.toString(), ahead);
            } else if (i > 0) {
                String half = begin.toString().trim();
                wrong(law, half.length(), half, ahead);
                wrong(law, half.length() + 3, half + "   ", ahead);
                wrong(law, half.length() + 1, half + " ;" + half, ahead);
            }
            StringBuilder spoilt = new StringBuilder(begin).append('!');
            for (int j = i + 1; j < things.size(); j++) {
                spoilt.append(' ').append(things.get(j));
            }
            wrong(law, begin.length(), spoilt.toString(), ahead);
            begin.append(things.get(i)).append(' ');
        }
        wrong(law, begin.length(), begin + "!", ahead);
        right(law, begin.toString().trim(), ahead);
    }

    private void placesInLines() {
        s.holds(6, "or the text's length, if more must come");
        places(false, "days 5");
        places(false, "feast 5");
        places(false, "chance 5");
        places(false, "village 0 1 2", "days 3");
        places(false, "person 0 5", THREE);
        places(false, "fact 0 1", THREE);
        places(false, "road 0 1 2", THREE);
        places(false, "debt 0 1 5 in 0 made 1 due 2", THREE, THEY);
        places(false, "task 0 0 | after 1", THREE, THEY, DUTIES);
        places(false, "misprint 0 1 2", THREE);
        wrong(false, 8, "feast 1;");
        wrong(false, 10, "feast 1;  ");
        wrong(false, 0, ";feast 1");
        wrong(false, 8, "feast 1;;feast 2");
        wrong(false, 0, ";");
    }

    private void placesInLaws() {
        s.holds(5, "bar [ if C ] | hush [ if C ] | earn N [ if C ]. C: ALL { or ALL }; ALL: ATOM { and ATOM }; "
            + "ATOM: not ATOM | ( C ) | again | feast | SUM < SUM | SUM > SUM. SUM: PART { + PART }");
        String[] land = {THREE, THEY};
        places(true, "bar | if again | and feast | or again", land);
        places(true, "hush | if feast", land);
        places(true, "earn 5 | if not again | or not not feast", land);
        places(true, "bar | if day < 3 | + page | and printing + 1 > known", land);
        places(true, "bar | if ( again or feast ) | and ( not ( lived < 3 ) ) | or coins > 5", land);
        for (String part : new String[] {"person", "village", "day", "page", "printing", "known", "lived", "coins", "7"}) {
            places(true, "bar | if " + part + " < " + part + " | + " + part, land);
        }
        wrong(true, 4, "bar;", land);
        wrong(true, 0, ";bar", land);
        wrong(true, 4, "bar;;bar", land);
        wrong(true, 7, "bar if if", land);
        wrong(true, 13, "bar if again not feast", land);
        wrong(true, 10, "bar if day", land);
        wrong(true, 11, "bar if day and day < 3", land);
        wrong(true, 13, "bar if again < 3", land);
        wrong(true, 11, "bar if 3 < again", land);
        wrong(true, 15, "bar if 3 < day < 5", land);
        wrong(true, 18, "bar if (day + page) < 5", land);
        wrong(true, 8, "bar if ()", land);
        wrong(true, 13, "bar if again ) ", land);
        wrong(true, 15, "bar if ( again ", land);
        wrong(true, 5, "earn if again", land);
        wrong(true, 4, "bar 5", land);
    }

    private void thereByThen() {
        s.holds(4, "one that there is by then");
        right(false, "days 3;village 0 1 2;person 0 5;village 0 1 2;person 1 5;debt 0 1 5 in 1 made 0 due 1");
        right(false, "days 3;village 0 1 2;task 0 0;task 0 0 after 0;task 0 0 after 1;task 0 0 after 0");
        wrong(false, 28, "days 3;village 0 1 2;person 1 5;village 0 1 2");
        wrong(false, 7, "person 0 5;village 0 1 2");
        wrong(false, 28, "days 3;village 0 1 2;road 0 1 1;village 0 1 2");
        wrong(false, 18, "person 0 5;debt 0 1 5 in 0 made 0 due 1;person 0 5", THREE);
        s.holds(4, "AFTER another TASK of a lesser number, or none");
        wrong(false, 15, "task 0 0 after 0", THREE);
        wrong(false, 24, "task 0 0;task 0 0 after 1", THREE);
        DayTables x = Check.land(THREE, "task 0 0;task 0 1 after 0;task 0 2");
        s.due("none", -1, () -> x.task(0, 2));
        s.due("another one", 0, () -> x.task(1, 2));
        s.due("none again", -1, () -> x.task(2, 2));
    }

    private void theLatterIsWrong() {
        s.holds(4, "(the two of road, of debt, not the same; of due another DAY than of made; else the latter is wrong)");
        wrong(false, 7, "road 1 1 1", THREE);
        wrong(false, 8, "road 02 2 1", THREE);
        wrong(false, 7, "debt 2 2 5 in 0 made 0 due 1", THREE, THEY);
        wrong(false, 27, "debt 0 1 5 in 0 made 2 due 2", THREE, THEY);
        wrong(false, 27, "debt 0 1 5 in 0 made 2 due 002", THREE, THEY);
        right(false, "road 1 2 1;road 2 1 1;road 1 2 1", THREE);
        right(false, "debt 1 2 5 in 0 made 2 due 1;debt 2 1 5 in 0 made 1 due 2", THREE, THEY);
    }

    private void daysAtFirst() {
        s.holds(4, "days: only as long as there is no VILLAGE (else that word is wrong)");
        right(false, "days 5;days 3;days 16");
        wrong(false, 21, "days 3;village 0 1 2;days 3");
        wrong(false, 0, "days 3", THREE);
        wrong(false, 2, "  days 99", THREE);
        s.holds(4, "FEASTS that are no DAYS by it are none");
        DayTables first = Check.land("feast 0;feast 6;days 3");
        s.due("DAY 0 always is one", 1, () -> first.count(10));
        DayTables x = Check.land("days 16;feast 15;feast 3;feast 2", "days 16");
        s.due("all are", 0x800C, () -> x.count(10));
        Check.country(x, "days 15");
        s.due("but DAY 15", 0xC, () -> x.count(10));
        Check.country(x, "days 4");
        s.due("DAY 3 is one by 4", 0xC, () -> x.count(10));
        Check.country(x, "days 3;days 16");
        s.due("DAY 3 is none by 3, and so stays", 4, () -> x.count(10));
        s.due("D", 16, () -> x.count(9));
        s.holds(4, "feast: a DAY more.");
        Check.country(x, "feast 2;feast 15;feast 0;feast 0");
        s.due("more, or the same", 0x8005, () -> x.count(10));
    }

    private void tables() {
        s.holds(4, "village: just D DAYS, none twice (a DAY told twice is wrong).");
        right(false, "village 6 5 4 3 2 1 0");
        right(false, "days 16;village 0 2 4 6 8 10 12 14 1 3 5 7 9 11 13 15");
        wrong(false, 10, "village 0 0 1", "days 3");
        wrong(false, 12, "village 0 1 0", "days 3");
        wrong(false, 12, "village 2 1 002", "days 3");
        wrong(false, 20, "village 6 5 4 3 2 1 6");
        s.holds(6, "of a TABLE a DAY too many that number, too few what comes instead");
        wrong(false, 14, "village 0 1 2 0", "days 3");
        wrong(false, 14, "village 0 1 2 3", "days 3");
        wrong(false, 22, "village 6 5 4 3 2 1 0 00007");
        wrong(false, 11, "village 0 1", "days 3");
        wrong(false, 12, "village 0 1 ", "days 3");
        wrong(false, 11, "village 0 1;village 0 1 2", "days 3");
        wrong(false, 12, "village 0 1 feast 0", "days 3");
        wrong(false, 8, "village ;", "days 3");
        wrong(false, 19, "village 6 5 4 3 2 1;feast 0");
    }

    private void tooMany() {
        s.holds(4, "VILLAGES (at most 6, numbered from 0 on)");
        most("VILLAGES", "village 0 1 2", 6, 0);
        s.holds(4, "PEOPLE (at most 8, numbered from 0 on)");
        most("PEOPLE", "person 0 9999", 8, 1);
        s.holds(4, "FACTS (at most 8, numbered from 0 on)");
        most("FACTS", "fact 0 2", 8, 2);
        s.holds(4, "ROADS (at most 12, numbered from 0 on)");
        most("ROADS", "road 1 0 1", 12, 3);
        s.holds(4, "DEBTS (at most 8, numbered from 0 on)");
        most("DEBTS", "debt 0 1 1 in 0 made 2 due 0", 8, 4);
        s.holds(4, "TASKS (at most 8, numbered from 0 on)");
        most("TASKS", "task 0 0", 8, 5);
        s.holds(6, "of a LINE too many, of a VILLAGE, PERSON, FACT, ROAD, DEBT, TASK too many, the first word");
        wrong(false, 14 * 8, repeated("feast 1", 14) + ";feast");
        wrong(true, 12 * 4, repeated("bar", 12) + ";bar", THREE, THEY);
    }

    private void most(String what, String line, int most, int kind) {
        String[] land = {THREE, THEY};
        DayTables x = Check.land(land);
        int more = most - x.count(kind);
        s.due("all but one of the " + what, most - 1, () -> {
            Check.country(x, repeated(line, more - 1));
            return x.count(kind);
        });
        s.due("one too many in one text", Sentences.ARGUMENT, () -> Check.country(x, "feast 0;" + line + "; " + line));
        s.due("its first word", 8 + line.length() + 2, x::fault);
        s.due("none of them", most - 1, () -> x.count(kind));
        s.due("all " + what, most, () -> {
            Check.country(x, line);
            return x.count(kind);
        });
        s.due("one too many in the next text", Sentences.ARGUMENT, () -> Check.country(x, " " + line));
        s.due("its first word", 1, x::fault);
        s.due("its first word, whatever follows", Sentences.ARGUMENT, () -> Check.country(x, line.split(" ")[0] + " x"));
        s.due("its first word still", 0, x::fault);
        s.due("no more " + what, most, () -> x.count(kind));
        s.due("numbered from 0 on: no number below", Sentences.INDEX, () -> row(x, kind, -1));
        s.due("the last number", true, () -> row(x, kind, most - 1) >= 0);
        s.due("no number above", Sentences.INDEX, () -> row(x, kind, most));
        s.due("a wrong word instead", Sentences.ARGUMENT, () -> Check.country(x, "  " + line.split(" ")[0] + "x 0"));
        s.due("that word", 2, x::fault);
    }

    private static int row(DayTables x, int kind, int number) {
        switch (kind) {
            case 0: return x.page(number, 0);
            case 1: return x.person(number, 0);
            case 2: return x.fact(number, true);
            case 3: return x.road(number, 0);
            case 4: return x.debt(number, 0);
            default: return x.task(number, 0);
        }
    }

    // ---- words and blanks

    private void words() {
        s.holds(6, "Words are as long as a to z go on");
        right(false, "feast1");
        right(false, "task0 0after0", THREE, THEY, DUTIES);
        right(false, "debt0 1 5in0made0due1", THREE, THEY);
        right(true, "bar if day<3and page>1or not(again)", THREE, THEY);
        right(true, "earn5if(again)and(feast)", THREE, THEY);
        for (String word : new String[] {"days", "village", "person", "fact", "road", "feast", "debt", "task", "chance",
            "misprint"}) {
            wrong(false, 0, word + "s 0 1 2", THREE);
            wrong(false, 0, word + "z 0 1 2", THREE);
            wrong(false, 0, "a" + word + " 0 1 2", THREE);
            wrong(false, 0, word.substring(1) + " 0 1 2", THREE);
            wrong(false, 0, word.substring(0, word.length() - 1) + " 0 1 2", THREE);
            wrong(false, 0, word.substring(0, 1).toUpperCase() + word.substring(1) + " 0 1 2", THREE);
        }
        String[] land = {THREE, THEY};
        for (String word : new String[] {"bar", "hush", "earn"}) {
            wrong(true, 0, word + "s 5", land);
            wrong(true, 0, word.substring(1) + " 5", land);
            wrong(true, 0, word.substring(0, word.length() - 1) + " 5", land);
        }
        for (String part : new String[] {"person", "village", "day", "page", "printing", "known", "lived", "coins", "again",
            "feast"}) {
            wrong(true, 7, "bar if " + part + "s < 3", land);
            wrong(true, 7, "bar if " + part.substring(1) + " < 3", land);
            wrong(true, 7, "bar if " + part.substring(0, part.length() - 1) + " < 3", land);
        }
        wrong(true, 0, "barif again", land);
        wrong(true, 4, "bar ifagain", land);
        wrong(true, 13, "bar if again orfeast", land);
        wrong(true, 13, "bar if again andfeast", land);
        wrong(true, 7, "bar if notagain", land);
        wrong(true, 4, "bar i again", land);
        wrong(true, 7, "bar if againor feast", land);
        wrong(false, 11, "debt 0 1 5 i 0 made 0 due 1", land);
        wrong(false, 16, "debt 0 1 5 in 0 mad 0 due 1", land);
        wrong(false, 23, "debt 0 1 5 in 0 made 0 du 1", land);
        wrong(false, 23, "debt 0 1 5 in 0 made 0 dues 1", land);
    }

    private void blanks() {
        s.holds(6, "between all there may be blanks (32), also ahead and behind");
        right(false, "   feast   1   ;   feast   2   ");
        right(false, "feast 1".concat(" ".repeat(393)));
        right(false, " ".repeat(393).concat("feast 1"));
        right(true, "  bar  if  not  (  again  )  or  day  +  3  <  page  ;  earn  5  ", THREE, THEY);
        right(true, "bar if not(again)or day+3<page;earn 5", THREE, THEY);
        for (char sign : new char[] {0, 9, 10, 11, 13, 31, 33, 47, 58, 96, 123, 127, 128, 160, 224, 255}) {
            wrong(false, 5, "feast" + sign + "1");
            wrong(false, 7, "feast 1" + sign);
            wrong(false, 0, sign + "feast 1");
        }
        wrong(false, 0, "fe ast 1");
        wrong(false, 8, "feast 1 0", "days 16");
        wrong(true, 4, "bar i f again", THREE, THEY);
    }

    private void noLine() {
        s.holds(4, "A text that is empty, or blanks alone, has no LINE.");
        DayTables x = new DayTables();
        s.dues("empty, a blank, 400 blanks", "1 -1 2 -1 3 -1", x::country, x::fault, () -> Check.country(x, " "), x::fault,
            () -> Check.country(x, " ".repeat(400)), x::fault);
        s.dues("as laws", "0 0 0 0 0", x::law, () -> x.count(7), () -> Check.law(x, " "), () -> Check.law(x, " ".repeat(400)),
            () -> x.count(7));
        s.holds(5, "(0 without a text)");
        DayTables y = Check.land(THREE, THEY);
        s.dues("ahead of any", "0 0 0", () -> y.rule(0, 0, 0), () -> y.rule(0, 0, 1), () -> y.rule(0, 0, 2));
        Check.law(y, "bar;hush;earn 9");
        s.dues("with one", "1 1 9", () -> y.rule(0, 0, 0), () -> y.rule(0, 0, 1), () -> y.rule(0, 0, 2));
        Check.law(y, " ");
        s.dues("with one that has no LINE", "0 0 0", () -> y.rule(0, 0, 0), () -> y.rule(0, 0, 1), () -> y.rule(0, 0, 2));
    }

    private void deep() {
        s.holds(5, "( and not within one another at most 6 deep");
        String[] land = {THREE, THEY};
        right(true, "bar if ((((((again))))))", land);
        right(true, "bar if not not not not not not again", land);
        right(true, "bar if not(not(not(again)))", land);
        right(true, "bar if ((((((again))))))and((((((day<3))))))or not not not not not not again", land);
        right(true, "bar if not again and not again and not again and not again and not again and not again and not again", land);
        right(true, "bar if (again)or(again)or(again)or(again)or(again)or(again)or(again)", land);
        right(true, "bar if (((((not again and not feast)))))and not(again)", land);
        s.holds(6, "the ( or not that is a 7th one deep");
        wrong(true, 13, "bar if (((((((again)))))))", land);
        wrong(true, 31, "bar if not not not not not not not again", land);
        wrong(true, 31, "bar if not not not not not not (again)", land);
        wrong(true, 13, "bar if ((((((not again))))))", land);
        wrong(true, 19, "bar if not(not(not((again))))", land);
        wrong(true, 26, "bar if (((((not again and(not((again))))))))", land);
        wrong(true, 22, "bar if ((((((again or (feast)))))))", land);
    }

    // ---- the law

    private void lawInPlace() {
        s.holds(5, "THE LAW (a text, in place of the one before)");
        DayTables x = Check.land(THREE, THEY);
        Check.law(x, "bar;earn 5;earn 6");
        s.dues("the first", "1 0 11 3", () -> x.rule(0, 0, 0), () -> x.rule(0, 0, 1), () -> x.rule(0, 0, 2), () -> x.count(7));
        Check.law(x, "hush");
        s.dues("the second", "0 1 0 1", () -> x.rule(0, 0, 0), () -> x.rule(0, 0, 1), () -> x.rule(0, 0, 2), () -> x.count(7));
        s.due("a wrong one", Sentences.ARGUMENT, () -> Check.law(x, "bar;earn 7;earn 8;bar if"));
        s.dues("the second stays", "0 1 0 1", () -> x.rule(0, 0, 0), () -> x.rule(0, 0, 1), () -> x.rule(0, 0, 2), () -> x.count(7));
        s.holds(5, "IllegalArgumentException: the text is wrong.");
        DayTables y = new DayTables();
        s.due("wrong without one before", Sentences.ARGUMENT, () -> Check.law(y, "bar bar"));
        s.due("none yet", -1, () -> y.count(7));
        s.due("with no country, right", 1, () -> Check.law(y, "bar if village > 5 and person < 7"));
    }

    private int gain(DayTables x, int person, int village, String condition) {
        Check.law(x, "earn 1 if " + condition);
        return x.rule(person, village, 2);
    }

    private void lawHolds() {
        s.holds(5, "BARRED: some bar LINE holds; SILENT: some hush LINE; EARNS: the sum of N of all earn LINES that hold");
        DayTables x = Check.land(THREE, THEY, "fact 0 1;fact 0 2;feast 1");
        Check.law(x, "bar if 0 > 1;bar if 1 > 0;hush if 1 < 0;hush if 1 < 1;earn 99;earn 98 if 0 < 0;earn 97 if 0 < 1");
        s.dues("some, none, the sum", "1 0 196", () -> x.rule(0, 0, 0), () -> x.rule(0, 0, 1), () -> x.rule(0, 0, 2));
        Check.law(x, repeated("earn 99", 12));
        s.due("the greatest sum", 1188, () -> x.rule(0, 0, 2));
        s.holds(5, "day: THE DAY there; page, printing: of that TIME; known, lived: how many FACTS, DAYS (as they are now)");
        x.dawns(2);
        x.tell(0, 0);
        String[][] asked = {{"day", "2"}, {"page", "2"}, {"printing", "0"}, {"known", "2"}, {"lived", "2"}, {"coins", "2381"},
            {"person", "0"}, {"village", "0"}};
        for (String[] part : asked) {
            boolean coins = part[0].equals("coins");
            String sum = coins ? "coins" : part[0];
            String want = coins ? "999 + 999 + 383" : part[1];
            s.due(sum + " is " + want + ", not less", 0, () -> gain(x, 0, 0, sum + " < " + want));
            s.due(sum + " is " + want + ", not more", 0, () -> gain(x, 0, 0, sum + " > " + want));
            s.due(sum + " less", 1, () -> gain(x, 0, 0, sum + " < " + want + " + 1"));
            s.due(sum + " more", 1, () -> gain(x, 0, 0, sum + " + 1 > " + want));
        }
        s.due("of another village", 1, () -> gain(x, 0, 2, "day > 0 and day < 2 and village > 1"));
        s.due("of another person", 1, () -> gain(x, 2, 0, "person > 1 and known < 1"));
        x.dawns(1);
        s.due("on PAGE 0 again", 1, () -> gain(x, 0, 0, "page < 1 and printing > 0 and printing < 2 and day < 1"));
        s.holds(5, "again: THE DAY is one that was LIVED; feast: it is a FEAST");
        DayTables y = Check.land("days 4;village 0 1 2 3;village 3 2 1 0;feast 1;feast 3;person 0 0");
        y.dawns(1);
        s.dues("a feast, lived", "1 1", () -> gain(y, 0, 0, "again"), () -> gain(y, 0, 0, "feast"));
        s.dues("elsewhere neither", "0 0", () -> gain(y, 0, 1, "again"), () -> gain(y, 0, 1, "feast"));
        y.dawns(1);
        s.dues("lived, no feast", "1 0", () -> gain(y, 0, 0, "again"), () -> gain(y, 0, 0, "feast"));
        s.dues("lived elsewhere", "1 1", () -> gain(y, 0, 1, "again"), () -> gain(y, 0, 1, "feast"));
        s.holds(5, "C: ALL { or ALL }; ALL: ATOM { and ATOM }");
        s.dues("and ahead of or", "1 1 0 0", () -> gain(y, 0, 0, "again or feast and feast"),
            () -> gain(y, 0, 0, "feast and feast or again"), () -> gain(y, 0, 0, "(again or feast) and feast"),
            () -> gain(y, 0, 0, "feast and (feast or again)"));
        s.dues("not of the next ATOM alone", "1 0 1", () -> gain(y, 0, 0, "not feast or again"),
            () -> gain(y, 0, 0, "not again and feast"), () -> gain(y, 0, 0, "not (again and feast)"));
        s.dues("not twice", "1 0", () -> gain(y, 0, 0, "not not again"), () -> gain(y, 0, 0, "not not not again"));
    }

    private void misprints() {
        s.holds(4, "misprint: two DAYS of a TABLE change their PAGES (the same: nothing).");
        DayTables x = Check.land("days 4;village 3 1 0 2;village 0 1 2 3;misprint 0 3 2");
        s.dues("the first and the last PAGE", "2 1 0 3", () -> x.day(0, 0), () -> x.day(0, 1), () -> x.day(0, 2), () -> x.day(0, 3));
        s.dues("of that TABLE alone", "0 1 2 3", () -> x.day(1, 0), () -> x.day(1, 1), () -> x.day(1, 2), () -> x.day(1, 3));
        Check.country(x, "misprint 1 2 2;misprint 1 0 0");
        s.dues("the same", "0 1 2 3", () -> x.day(1, 0), () -> x.day(1, 1), () -> x.day(1, 2), () -> x.day(1, 3));
        Check.country(x, "misprint 1 0 1;misprint 1 0 2");
        s.dues("one behind another", "1 2 0 3", () -> x.day(1, 0), () -> x.day(1, 1), () -> x.day(1, 2), () -> x.day(1, 3));
    }

    private void nothingStays() {
        s.holds(4, "Of a wrong text nothing stays.");
        String all = "village 0 1 2;person 0 9;fact 0 0;road 0 1 1;feast 0;feast 1;debt 0 1 1 in 0 made 0 due 1;task 0 0;"
            + "chance 9;misprint 0 0 1;misprint 1 0 2;";
        wrong(false, all.length(), all + "x", THREE, THEY, DUTIES);
        DayTables x = new DayTables();
        s.due("days, and a wrong end", Sentences.ARGUMENT, () -> Check.country(x, "days 3;village 0 1 2;person 0 5;x"));
        s.dues("D, VILLAGES, PEOPLE, COINS told, texts", "7 0 0 0 0", () -> x.count(9), () -> x.count(0), () -> x.count(1),
            () -> x.count(12), () -> x.count(6));
        s.due("a village of 7", 1, () -> Check.country(x, "village 0 1 2 3 4 5 6;person 0 8"));
        s.due("it is village 0, person 0", "8 6", () -> x.person(0, 3) + " " + x.page(0, 6));
    }

    // ---- promise 6

    private void faults() {
        s.holds(6, "The first wrong byte of the latest text that was read; NONE without one, and ahead of any.");
        DayTables x = new DayTables();
        s.due("ahead of any", -1, x::fault);
        Check.said(() -> Check.country(x, "feast 9"));
        s.due("of a country", 6, x::fault);
        Check.said(() -> Check.law(x, "bar if 1000 < day"));
        s.due("of a law behind it", 7, x::fault);
        Check.said(() -> Check.country(x, "x"));
        s.due("the first byte", 0, x::fault);
        Check.feed(x, Check.bytes(9, 9, 9));
        Check.said(x::bread);
        Check.feed(x, Check.bytes(9, 9, 9));
        Check.said(x::tables);
        s.due("clues are no text", 0, x::fault);
        Check.said(() -> x.dawns(0));
        s.due("no other call changes it", 0, x::fault);
        Check.law(x, "bar");
        s.due("of a right law", -1, x::fault);
        Check.said(() -> Check.law(x, "feast 1" + " ".repeat(392) + "x"));
        s.due("a country is no law", 0, x::fault);
        Check.said(() -> Check.country(x, "feast 1" + " ".repeat(392) + "x"));
        s.due("the last of 400 bytes", 399, x::fault);
        Check.said(() -> Check.country(x, "feast" + " ".repeat(395)));
        s.due("behind 400 bytes", 400, x::fault);
        Check.country(x, "feast 1");
        s.due("of a right country", -1, x::fault);
    }
}
