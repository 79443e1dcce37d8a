import java.util.ArrayList;
import java.util.Arrays;
import java.util.List;

/** Edges of tables, of what is owed, and of what is kept of all that was done: promises 28 to 34 and 37 to 42. */
final class EdgesOfTables {
    private static final String TWO_ARGUMENTS = Sentences.ARGUMENT + " " + Sentences.ARGUMENT;
    private static final String TWO_INDICES = Sentences.INDEX + " " + Sentences.INDEX;
    private static final String TWO_ELEMENTS = Sentences.ELEMENT + " " + Sentences.ELEMENT;
    private static final String LAND = "days 3;village 0 1 2;village 0 1 2;road 0 1 1;person 0 10;person 0 20;fact 0 1;fact 0 2;task 0 0;task 0 1";

    private final Sentences s;

    EdgesOfTables(Sentences s) {
        this.s = s;
    }

    void all() {
        alike();
        shifts();
        touches();
        rounds();
        bread();
        breadWrong();
        orders();
        ordersWrong();
        early();
        netted();
        payments();
        logged();
        logFull();
        seeds();
        undoneOneByOne();
        undoneAtMost();
        undoneNoMore();
        undoneButFor();
        images();
        imagesButFor();
        noImage();
        counts();
    }

    // ---- promises 28 to 30

    private void alike() {
        s.holds(28, "ALIKE: two TABLES: at how many PAGES both have one DAY");
        DayTables x = Check.land("days 4;village 0 1 2 3;village 1 0 3 2;village 3 1 2 0;village 1 2 3 0");
        s.dues("none, all, the middle, the last", "0 4 2 1", () -> x.alike(0, 1, false), () -> x.alike(0, 0, false), () -> x.alike(0, 2, false),
            () -> x.alike(2, 3, false));
        s.dues("either way", "2 1", () -> x.alike(2, 0, false), () -> x.alike(3, 2, false));
        Check.country(x, "misprint 1 0 1");
        s.due("as they are now", 2, () -> x.alike(0, 1, false));
        s.holds(28, "IndexOutOfBoundsException: there is no such VILLAGE, PERSON, FACT, ROAD, DEBT, TASK, DAY.");
        s.dues("the first", TWO_INDICES, () -> x.alike(-1, 0, false), () -> x.alike(4, 0, true));
        s.dues("the second", TWO_INDICES, () -> x.alike(0, -1, false), () -> x.alike(0, 4, true));
    }

    private void shifts() {
        s.holds(28, "the SHIFT (0 to D less 1) by which the second one's PAGES, so many later, are most so: the least such");
        DayTables x = Check.land("days 4;village 0 1 2 3;village 3 0 1 2;village 1 2 3 0;village 1 0 3 2;village 0 3 2 1");
        s.dues("0, 1, D less 1", "0 1 3", () -> x.alike(0, 0, true), () -> x.alike(0, 1, true), () -> x.alike(0, 2, true));
        s.dues("the other way", "3 1", () -> x.alike(1, 0, true), () -> x.alike(2, 0, true));
        s.due("1 and 3 are as much so", 1, () -> x.alike(0, 3, true));
        s.due("0 and 2 are as much so", 0, () -> x.alike(0, 4, true));
        DayTables six = Check.land("days 16;village 0 1 2 3 4 5 6 7 8 9 10 11 12 13 14 15;village 1 2 3 4 5 6 7 8 9 10 11 12 13 14 15 0");
        s.dues("of 16 PAGES", "15 1 0", () -> six.alike(0, 1, true), () -> six.alike(1, 0, true), () -> six.alike(0, 1, false));
    }

    private void touches() {
        s.holds(29, "PAGES of a VILLAGE of which the next one (behind the last the first) has a DAY that is alike modulo W: how many; the first");
        DayTables x = Check.land("days 5;village 0 1 2 3 4;village 0 2 4 1 3;village 0 3 1 2 4");
        s.dues("the last and the first PAGE alone", "1 4", () -> x.touch(0, 2, false), () -> x.touch(0, 2, true));
        s.dues("from the first PAGE on", "3 0", () -> x.touch(1, 2, false), () -> x.touch(1, 2, true));
        s.dues("by 3", "1 0", () -> x.touch(2, 3, false), () -> x.touch(2, 3, true));
        s.dues("by 2", "3 1", () -> x.touch(2, 2, false), () -> x.touch(2, 2, true));
        s.holds(29, "TOUCH: how many (first false), or the first PAGE; NONE.");
        s.dues("none", "0 -1", () -> x.touch(0, 3, false), () -> x.touch(0, 3, true));
        s.holds(29, "TOUCH by W (2 to 7)");
        s.dues("7", "0 -1", () -> x.touch(0, 7, false), () -> x.touch(0, 7, true));
        DayTables y = Check.land("days 8;village 0 7 1 2 3 4 5 6");
        s.dues("7, of 8 DAYS", "1 0", () -> y.touch(0, 7, false), () -> y.touch(0, 7, true));
        s.holds(29, "IllegalArgumentException: W is none.");
        s.dues("1, 8", TWO_ARGUMENTS, () -> x.touch(0, 1, false), () -> x.touch(0, 8, true));
        s.dues("0, below", TWO_ARGUMENTS, () -> x.touch(0, 0, false), () -> x.touch(0, -2, true));
        s.dues("no VILLAGE", TWO_INDICES, () -> x.touch(-1, 1, false), () -> x.touch(3, 8, true));
    }

    private void rounds() {
        s.holds(30, "the least number of PAGES after which a TABLE, told by DAYS modulo W, goes on as from its begin, all the way round (D, if no less)");
        DayTables x = Check.land("days 6;village 0 1 2 3 4 5;village 0 1 3 2 4 5;village 0 1 5 3 4 2");
        s.dues("by 2, 3, 4, 5, 6, 7", "2 3 6 6 6 6", () -> x.round(0, 2), () -> x.round(0, 3), () -> x.round(0, 4), () -> x.round(0, 5),
            () -> x.round(0, 6), () -> x.round(0, 7));
        s.dues("not all the way round", "6 6", () -> x.round(1, 2), () -> x.round(1, 3));
        s.dues("all the way round by 3", "6 3", () -> x.round(2, 2), () -> x.round(2, 3));
        DayTables six = Check.land("days 16;village 0 1 2 3 4 5 6 7 8 9 10 11 12 13 14 15;village 0 2 1 3 4 6 5 7 8 10 9 11 12 14 13 15");
        s.dues("of 16 PAGES", "2 16 4 16 16 4 4", () -> six.round(0, 2), () -> six.round(0, 3), () -> six.round(0, 4), () -> six.round(0, 6),
            () -> six.round(0, 7), () -> six.round(1, 2), () -> six.round(1, 4));
        DayTables seven = Check.land("village 0 1 2 3 4 5 6");
        s.dues("of 7 PAGES", "7 7", () -> seven.round(0, 2), () -> seven.round(0, 7));
        s.holds(30, "IllegalArgumentException: W is none.");
        s.dues("1, 8", TWO_ARGUMENTS, () -> x.round(0, 1), () -> x.round(0, 8));
        s.dues("0, below", TWO_ARGUMENTS, () -> x.round(0, 0), () -> x.round(0, -2));
        s.dues("no VILLAGE", TWO_INDICES, () -> x.round(-1, 1), () -> x.round(3, 8));
    }

    // ---- promises 31 and 32

    private static int bread(DayTables x, int... clues) {
        Check.feed(x, Check.bytes(clues));
        return x.bread();
    }

    private static int orders(DayTables x, int... clues) {
        Check.feed(x, Check.bytes(clues));
        return x.tables();
    }

    private void bread() {
        s.holds(31, "VILLAGES of which the TABLE fits all: PAGE of A less that of B, modulo D, is K: as bits");
        DayTables x = Check.land("days 3;village 0 1 2;village 0 2 1;village 2 0 1;village 1 2 0;village 1 0 2;village 2 1 0");
        s.due("1 is a dawn behind 0", 1 | 4 | 8, () -> bread(x, 1, 0, 1));
        s.due("1 is two dawns behind 0", 2 | 16 | 32, () -> bread(x, 1, 0, 2));
        s.due("0 is two dawns behind 1", 1 | 4 | 8, () -> bread(x, 0, 1, 2));
        s.due("two that fit", 1 | 4 | 8, () -> bread(x, 1, 0, 1, 2, 1, 1));
        s.due("one that does not", 0, () -> bread(x, 1, 0, 1, 2, 1, 2));
        s.due("of itself, no dawn old", 63, () -> bread(x, 2, 2, 0));
        s.dues("of itself, a dawn old", "0 0", () -> bread(x, 2, 2, 1), () -> bread(x, 0, 0, 2));
        s.due("no dawn old, of another DAY", 0, () -> bread(x, 1, 0, 0));
        s.holds(31, "IllegalArgumentException: the TAPE is not that (none may be told).");
        s.due("none", 63, () -> bread(x));
        int[] many = new int[399];
        s.due("133 clues", 63, () -> bread(x, many));
        many[396] = 1;
        s.due("133 clues, the last not fitting", 0, () -> bread(x, many));
        Check.country(x, "misprint 0 0 1");
        s.due("as the TABLE is now", 4 | 8, () -> bread(x, 1, 0, 1));
        DayTables none = new DayTables();
        s.due("no VILLAGES", 0, () -> bread(none, 1, 0, 1));
    }

    private void breadWrong() {
        s.holds(31, "on DAY A bread of DAY B is K dawns old (K 0 to D less 1)");
        DayTables x = Check.land("days 3;village 0 1 2");
        s.dues("the greatest", "1 0 0", () -> bread(x, 2, 0, 2), () -> bread(x, 0, 2, 2), () -> bread(x, 1, 1, 2));
        s.dues("A", TWO_ARGUMENTS, () -> bread(x, 3, 0, 0), () -> bread(x, 255, 0, 0));
        s.dues("B", TWO_ARGUMENTS, () -> bread(x, 0, 3, 0), () -> bread(x, 0, 128, 0));
        s.dues("K", TWO_ARGUMENTS, () -> bread(x, 0, 0, 3), () -> bread(x, 0, 0, 255));
        s.dues("behind a right one, or one that does not fit", TWO_ARGUMENTS, () -> bread(x, 1, 0, 1, 0, 0, 3), () -> bread(x, 1, 0, 0, 3, 0, 0));
        s.holds(31, "(of each clue three bytes: A, B, K)");
        s.dues("one, two, four, five bytes", TWO_ARGUMENTS + " " + TWO_ARGUMENTS, () -> bread(x, 0), () -> bread(x, 0, 0),
            () -> bread(x, 0, 0, 0, 0), () -> bread(x, 0, 0, 0, 0, 0));
        s.due("400 bytes", Sentences.ARGUMENT, () -> bread(x, new int[400]));
        s.holds(31, "Uses the TAPE up: BREAD");
        s.due("wrong ones too", false, () -> x.end(1));
        bread(x, 1, 0, 1);
        s.due("right ones", false, () -> x.end(1));
        s.holds(31, "a call that throws changes nothing but the TAPE, where it is used up, and fault(), where a text is read");
        Check.said(() -> Check.country(x, "days 3;feast x"));
        Check.said(() -> bread(x, 9, 9, 9));
        s.due("no text was read", 0, x::fault);
        bread(x, 1, 0, 1);
        s.due("nor was one by right clues", 0, x::fault);
    }

    /** All orders of D DAYS with DAY 0 on PAGE 0, put one by one. */
    private static void put(List<int[]> all, int[] order, int at, int taken) {
        if (at == order.length) {
            all.add(order.clone());
        }
        for (int day = 1; day < order.length && at < order.length; day++) {
            if ((taken >> day & 1) == 0) {
                order[at] = day;
                put(all, order, at + 1, taken | 1 << day);
            }
        }
    }

    private static int fitting(List<int[]> all, int days, int... clues) {
        int many = 0;
        for (int[] order : all) {
            int[] page = new int[days];
            for (int i = 0; i < days; i++) {
                page[order[i]] = i;
            }
            boolean fits = true;
            for (int i = 0; i < clues.length; i += 3) {
                fits &= (page[clues[i]] - page[clues[i + 1]] + days) % days == clues[i + 2];
            }
            many += fits ? 1 : 0;
        }
        return many;
    }

    private void orders() {
        s.holds(32, "TABLES: of all orders of D DAYS, DAY 0 being at PAGE 0, how many fit");
        int[] factorials = {1, 1, 2, 6, 24, 120, 720, 5040, 40320};
        for (int days = 3; days <= 9; days++) {
            int d = days;
            DayTables x = Check.land("days " + days);
            s.due("none told, D " + d, factorials[d - 1], () -> orders(x));
            s.due("the last DAY behind DAY 0, D " + d, factorials[d - 2], () -> orders(x, d - 1, 0, 1));
            s.due("DAY 0 behind the last DAY, D " + d, factorials[d - 2], () -> orders(x, 0, d - 1, d - 1));
            s.due("DAY 1 as much behind DAY 2, D " + d, factorials[d - 2], () -> orders(x, 1, 2, d - 1));
            s.due("of itself, D " + d, factorials[d - 1], () -> orders(x, d - 1, d - 1, 0));
            s.dues("never, D " + d, "0 0 0", () -> orders(x, d - 1, d - 1, d - 1), () -> orders(x, 0, 1, 0), () -> orders(x, 1, 0, 1, 0, 1, 1));
            s.due("both ways, D " + d, factorials[d - 2], () -> orders(x, 1, 0, 1, 0, 1, d - 1));
        }
        DayTables fewer = Check.land("days 9");
        s.due("of 9 DAYS", 5040, () -> orders(fewer, 1, 0, 8));
        Check.country(fewer, "days 3");
        s.dues("then of 3", "1 1 2", () -> orders(fewer, 2, 1, 1), () -> orders(fewer, 1, 0, 2), () -> orders(fewer));
        for (int days = 5; days <= 9; days++) {
            List<int[]> all = new ArrayList<>();
            put(all, new int[days], 1, 1);
            DayTables x = Check.land("days " + days);
            int n = days;
            for (int i = 0; i < 12; i++) {
                int k = i % (days - 1) + 1;
                int[] clues = {1, 2, k, 3, 4, (i * i + k) % days, (i + 1) % days, (i + 2) % days, 1 + i % 3};
                int some = 3 + i % 3 * 3;
                int[] told = Arrays.copyOf(clues, Math.min(some, 9));
                s.due("D " + n + ", " + Arrays.toString(told), fitting(all, n, told), () -> orders(x, told));
                int[] pairs = {2, 1, k, 4, 3, (i + 2) % days, days - 1, 0, 1 + i % 2};
                s.due("D " + n + ", " + Arrays.toString(pairs), fitting(all, n, pairs), () -> orders(x, pairs));
                int[] crossed = {3, 1, k, 4, 2, k, 0, days - 1, i % days};
                s.due("D " + n + ", " + Arrays.toString(crossed), fitting(all, n, crossed), () -> orders(x, crossed));
            }
        }
    }

    private void ordersWrong() {
        s.holds(32, "(D 9 at most, else -3)");
        for (int days = 8; days <= 16; days++) {
            DayTables x = Check.land("days " + days);
            int due = days > 9 ? -3 : days == 9 ? 40320 : 5040;
            s.due("D " + days, due, () -> orders(x));
            int most = days > 9 ? -3 : 0;
            int d = days;
            s.due("never, D " + d, most, () -> orders(x, 0, 0, 1));
        }
        s.holds(32, "IllegalArgumentException likewise.");
        DayTables ten = Check.land("days 10");
        s.dues("wrong ahead of -3", TWO_ARGUMENTS, () -> orders(ten, 10, 0, 0), () -> orders(ten, 0));
        DayTables x = Check.land("days 3");
        s.dues("the greatest", "1 1 1", () -> orders(x, 2, 0, 2), () -> orders(x, 0, 2, 2), () -> orders(x, 2, 1, 2));
        s.dues("A", TWO_ARGUMENTS, () -> orders(x, 3, 0, 0), () -> orders(x, 255, 0, 0));
        s.dues("B", TWO_ARGUMENTS, () -> orders(x, 0, 3, 0), () -> orders(x, 0, 128, 0));
        s.dues("K", TWO_ARGUMENTS, () -> orders(x, 0, 0, 3), () -> orders(x, 0, 0, 255));
        s.dues("one, two, four, five bytes", TWO_ARGUMENTS + " " + TWO_ARGUMENTS, () -> orders(x, 0), () -> orders(x, 0, 0),
            () -> orders(x, 0, 0, 0, 0), () -> orders(x, 0, 0, 0, 0, 0));
        s.dues("399, 400 bytes", "2 " + Sentences.ARGUMENT, () -> orders(x, new int[399]), () -> orders(x, new int[400]));
        s.holds(32, "Uses the TAPE up: TABLES");
        s.due("wrong ones too", false, () -> x.end(1));
        orders(x, 1, 0, 1);
        s.due("right ones", false, () -> x.end(1));
        orders(ten, 1, 0, 1);
        s.due("with -3 too", false, () -> ten.end(1));
        s.due("no text was read", -1, x::fault);
    }

    // ---- promises 33 and 34

    private void early() {
        s.holds(33, "by how many dawns DUE is ahead of MADE, in the order of PAGES (below 0: behind)");
        DayTables x = Check.land("days 4;village 3 1 0 2;village 0 1 2 3;person 0 0;person 0 0",
            "debt 0 1 1 in 0 made 2 due 3;debt 0 1 1 in 0 made 3 due 2;debt 0 1 1 in 0 made 0 due 1;debt 1 0 1 in 1 made 0 due 1");
        s.dues("the most ahead, the most behind, one ahead, one behind", "3 -3 1 -1", () -> x.early(0), () -> x.early(1), () -> x.early(2),
            () -> x.early(3));
        Check.country(x, "misprint 0 0 1");
        s.due("by the TABLE as it is now", -1, () -> x.early(2));
        DayTables six = Check.land("days 16;village 0 1 2 3 4 5 6 7 8 9 10 11 12 13 14 15;person 0 0;person 0 0",
            "debt 0 1 1 in 0 made 15 due 0;debt 0 1 1 in 0 made 0 due 15");
        s.dues("of 16 PAGES", "15 -15", () -> six.early(0), () -> six.early(1));
        s.holds(33, "IndexOutOfBoundsException: there is no such VILLAGE, PERSON, FACT, ROAD, DEBT, TASK, DAY.");
        s.dues("no DEBT", TWO_INDICES, () -> x.early(-1), () -> x.early(4));
    }

    private void netted() {
        s.holds(34, "all DEBTS as owed (N of each) netted: what each PERSON has to get less to pay");
        DayTables x = Check.land("days 3;village 0 1 2;person 0 0;person 0 0;person 0 0", "debt 0 1 999 in 0 made 1 due 2;debt 0 2 1 in 0 made 1 due 2");
        s.dues("each", "-1000 999 1", () -> x.netted(0), () -> x.netted(1), () -> x.netted(2));
        x.dawns(5);
        s.dues("whatever was paid or MISSED", "-1000 999 1", () -> x.netted(0), () -> x.netted(1), () -> x.netted(2));
        Check.country(x, "debt 1 0 998 in 0 made 0 due 1;debt 2 1 1 in 0 made 0 due 1");
        s.dues("both ways", "-2 2 0", () -> x.netted(0), () -> x.netted(1), () -> x.netted(2));
        s.holds(34, "NETTED: what a PERSON has to get less to pay, or (person NONE) the fewest payments.");
        s.due("NONE", 1, () -> x.netted(-1));
        s.dues("no PERSON", TWO_INDICES, () -> x.netted(-2), () -> x.netted(3));
        s.dues("far", TWO_INDICES, () -> x.netted(Integer.MIN_VALUE), () -> x.netted(Integer.MAX_VALUE));
        DayTables none = Check.land("days 3;village 0 1 2;person 0 0");
        s.dues("no DEBTS", "0 0", () -> none.netted(0), () -> none.netted(-1));
        DayTables most = Check.land("days 3;village 0 1 2;person 0 0;person 0 0", "debt 0 1 999 in 0 made 1 due 2;debt 0 1 999 in 0 made 1 due 2;"
            + "debt 0 1 999 in 0 made 1 due 2;debt 0 1 999 in 0 made 1 due 2", "debt 0 1 999 in 0 made 1 due 2;debt 0 1 999 in 0 made 1 due 2;"
            + "debt 0 1 999 in 0 made 1 due 2;debt 0 1 999 in 0 made 1 due 2");
        s.dues("the most", "-7992 7992 1", () -> most.netted(0), () -> most.netted(1), () -> most.netted(-1));
    }

    /** DEBTS among eight PEOPLE: of each the debtor, the creditor and N. */
    private static DayTables owing(int... rows) {
        DayTables x = Check.land("days 3;village 0 1 2;person 0 0;person 0 0;person 0 0;person 0 0;person 0 0;person 0 0;person 0 0;person 0 0");
        for (int i = 0; i < rows.length; i += 3) {
            Check.country(x, "debt " + rows[i] + " " + rows[i + 1] + " " + rows[i + 2] + " in 0 made 0 due 1");
        }
        return x;
    }

    private void payments() {
        s.holds(34, "the fewest payments by which all is even (at most 8 PEOPLE: by sets that are even among themselves)");
        s.due("one", 1, () -> owing(0, 7, 5).netted(-1));
        s.due("one, of a chain", 1, () -> owing(0, 1, 5, 1, 2, 5, 2, 3, 5, 3, 4, 5, 4, 5, 5, 5, 6, 5, 6, 7, 5).netted(-1));
        s.due("none, of a ring", 0, () -> owing(0, 1, 5, 1, 2, 5, 2, 3, 5, 3, 4, 5, 4, 5, 5, 5, 6, 5, 6, 7, 5, 7, 0, 5).netted(-1));
        s.due("four pairs", 4, () -> owing(0, 1, 1, 2, 3, 2, 4, 5, 3, 6, 7, 4).netted(-1));
        s.due("four pairs, owed otherwise", 4, () -> owing(0, 3, 1, 2, 5, 1, 4, 7, 1, 6, 1, 1).netted(-1));
        s.due("no set but all", 7, () -> owing(0, 7, 1, 1, 7, 2, 2, 7, 4, 3, 7, 8, 4, 7, 16, 5, 7, 32, 6, 7, 64).netted(-1));
        s.due("two sets of four", 6, () -> owing(0, 3, 1, 1, 3, 2, 2, 3, 4, 4, 7, 10, 5, 7, 20, 6, 7, 40).netted(-1));
        s.due("a pair, a three, a three", 1 + 2 + 2, () -> owing(0, 1, 100, 2, 4, 3, 3, 4, 4, 5, 7, 10, 6, 7, 20).netted(-1));
        s.due("two who get 1 each", 2, () -> owing(2, 0, 1, 2, 1, 1).netted(-1));
        s.due("two who pay 1 each", 2, () -> owing(0, 2, 1, 1, 2, 1).netted(-1));
        DayTables more = owing(0, 1, 1, 2, 3, 2, 4, 5, 3, 6, 7, 4);
        s.due("four pairs at first", 4, () -> more.netted(-1));
        Check.country(more, "debt 0 2 64 in 0 made 0 due 1;debt 0 4 16 in 0 made 0 due 1;debt 0 6 300 in 0 made 0 due 1");
        s.due("then no set but all", 7, () -> more.netted(-1));
        s.due("a pair that the DEBTS do not show", 2, () -> owing(0, 1, 5, 0, 2, 3, 3, 1, 3, 3, 2, 5).netted(-1));
    }

    // ---- promises 37 and 38

    private void logged() {
        s.holds(37, "THE LOG so many ago (0 the latest) what 0 TIME, 1 who, 2 the FACT, 3 by whom; NONE without.");
        DayTables x = Check.land(LAND);
        s.dues("empty", "-1 -1 -1 -1", () -> x.log(0, 0), () -> x.log(0, 1), () -> x.log(0, 2), () -> x.log(0, 3));
        x.dawns(1);
        x.tell(1, 1);
        s.dues("the latest", "1 1 1 8", () -> x.log(0, 0), () -> x.log(0, 1), () -> x.log(0, 2), () -> x.log(0, 3));
        s.dues("the oldest", "1 0 0 9", () -> x.log(2, 0), () -> x.log(2, 1), () -> x.log(2, 2), () -> x.log(2, 3));
        s.dues("one more ago", "-1 -1 -1 -1", () -> x.log(3, 0), () -> x.log(3, 1), () -> x.log(3, 2), () -> x.log(3, 3));
        s.dues("below, far", "-1 -1 -1 -1", () -> x.log(-1, 0), () -> x.log(Integer.MIN_VALUE, 3), () -> x.log(Integer.MAX_VALUE, 1),
            () -> x.log(100, 0));
        s.holds(37, "NoSuchElementException: another what.");
        s.dues("below, above", TWO_ELEMENTS, () -> x.log(0, -1), () -> x.log(0, 4));
        s.dues("where there is none", TWO_ELEMENTS, () -> x.log(3, -1), () -> x.log(-1, 4));
        s.dues("far", TWO_ELEMENTS, () -> x.log(0, Integer.MIN_VALUE), () -> x.log(0, Integer.MAX_VALUE));
    }

    private void logFull() {
        s.holds(37, "THE LOG: of the latest 100 times that one came to know a FACT");
        DayTables x = Check.land("days 3;village 0 1 2;person 0 0;person 0 0;person 0 0;person 0 0;person 0 0;person 0 0;person 0 0;person 0 0",
            "fact 0 0;fact 0 0;fact 0 0;fact 0 0;fact 0 0;fact 0 0;fact 0 0;fact 0 0");
        x.tell(3, 3);
        x.dawns(2);
        s.due("so far", 8, () -> x.count(17));
        s.due("all FACTS of all but one", 56, () -> x.dawns(1));
        s.due("64 rows: nobody forgets, so there are never more", 64, () -> x.count(17));
        s.dues("the latest", "3 7 7 9", () -> x.log(0, 0), () -> x.log(0, 1), () -> x.log(0, 2), () -> x.log(0, 3));
        s.dues("the first", "0 3 3 8", () -> x.log(63, 0), () -> x.log(63, 1), () -> x.log(63, 2), () -> x.log(63, 3));
        s.dues("by PEOPLE, then by FACTS", "3 7 0 9 3 6 7 9", () -> x.log(6, 0), () -> x.log(6, 1), () -> x.log(6, 2), () -> x.log(6, 3),
            () -> x.log(7, 0), () -> x.log(7, 1), () -> x.log(7, 2), () -> x.log(7, 3));
        s.due("no 65th", -1, () -> x.log(64, 0));
        x.dawns(200);
        s.due("nothing new", 64, () -> x.count(17));
    }

    private void seeds() {
        s.holds(38, "SEED: what it was.");
        DayTables x = Check.land(LAND);
        s.dues("1 at first, then what was told", "1 0 -1 -2147483648 2147483647", () -> x.seed(0), () -> x.seed(-1),
            () -> x.seed(Integer.MIN_VALUE), () -> x.seed(Integer.MAX_VALUE), () -> x.seed(5));
        s.due("no act", 0, () -> x.count(19));
        x.dawns(3);
        int once = 1103515245 * 5 + 12345;
        s.due("two DRAWS on", 1103515245 * once + 12345, () -> x.seed(6));
    }

    // ---- promise 39

    private static void act(DayTables x, int act) {
        switch (act) {
            case 0: x.give(0, 1, 10); break;
            case 1: x.work(1, 0); break;
            case 2: x.tell(0, 0); break;
            case 3: x.tell(0, 0); break;
            case 4: x.dawns(1); break;
            case 5: x.dawns(200); break;
            case 6: x.go(0, 0); break;
            case 7: x.dawns(3); break;
            default: x.go(1, 0);
        }
    }

    private static DayTables acted(int acts) {
        DayTables x = Check.land(LAND, "chance 100");
        for (int act = 0; act < acts; act++) {
            act(x, act);
        }
        return x;
    }

    private void undoneOneByOne() {
        s.holds(39, "the latest ACT, or DAWNS of one call, not undone yet");
        int acts = 9;
        for (int left = 0; left < acts; left++) {
            DayTables x = acted(acts);
            s.due("as many", acts, () -> x.count(19));
            for (int undone = acts; undone > left; undone--) {
                s.due("act " + undone, true, x::undo);
            }
            int ahead = left;
            s.due("left", ahead, () -> x.count(19));
            s.due("all as ahead of act " + ahead, Check.all(acted(ahead)), () -> Check.all(x));
        }
        DayTables x = acted(1);
        s.dues("no more", "true false 10 20", x::undo, x::undo, () -> x.person(0, 3), () -> x.person(1, 3));
        s.holds(39, "UNDONE: whether there was one.");
        x.tell(0, 1);
        s.dues("one, none", "true false", x::undo, x::undo);
        x.tell(0, 1);
        x.undo();
        x.tell(1, 1);
        s.dues("another one instead", "1 0 2", () -> x.count(19), () -> x.person(0, 5), () -> x.person(1, 5));
        s.dues("that one is undone", "true 0 false", x::undo, () -> x.person(1, 5), x::undo);
    }

    private void undoneAtMost() {
        s.holds(39, "(12 are remembered)");
        DayTables x = Check.land(LAND);
        for (int act = 1; act <= 12; act++) {
            x.dawns(act);
            int acts = act;
            s.due("acts", acts, () -> x.count(19));
        }
        x.dawns(100);
        s.due("the 13th", 12, () -> x.count(19));
        int time = 78;
        for (int act = 12; act >= 1; act--) {
            int left = time;
            s.dues("undone", "true " + left, x::undo, () -> x.count(8));
            time -= act;
        }
        s.dues("the first is not remembered", "false 1 0", x::undo, () -> x.count(8), () -> x.count(19));
        for (int act = 0; act < 30; act++) {
            x.dawns(1);
        }
        x.undo();
        x.dawns(7);
        s.dues("twelve again", "12 37", () -> x.count(19), () -> x.count(8));
        for (int act = 0; act < 12; act++) {
            x.undo();
        }
        s.dues("all twelve", "false 19", x::undo, () -> x.count(8));
    }

    private void undoneNoMore() {
        s.holds(39, "A text, going back: none are remembered.");
        DayTables x = Check.land(LAND);
        x.tell(0, 0);
        Check.said(() -> Check.country(x, "feast 9"));
        Check.said(() -> Check.law(x, "bar x"));
        bread(x, 1, 0, 1);
        orders(x, 1, 0, 1);
        Check.said(() -> bread(x, 9));
        x.seed(4);
        x.back();
        x.image();
        s.due("wrong texts, clues, SEED, no image, THE IMAGE kept: it is", 1, () -> x.count(19));
        Check.country(x, "");
        s.dues("a text of THE COUNTRY", "0 false 1", () -> x.count(19), x::undo, () -> x.person(0, 5));
        x.tell(0, 1);
        Check.law(x, " ");
        s.dues("THE LAW", "0 false 3", () -> x.count(19), x::undo, () -> x.person(0, 5));
        x.tell(1, 1);
        s.dues("going back", "true 0 false 1 0", x::back, () -> x.count(19), x::undo, () -> x.person(0, 5), () -> x.person(1, 5));
    }

    private void undoneButFor() {
        s.holds(39, "all is as ahead of it (but for the TAPE, fault(), THE IMAGE)");
        DayTables x = Check.land(LAND);
        x.seed(3);
        x.tell(0, 0);
        x.seed(4);
        Check.said(() -> Check.country(x, "feast 9"));
        x.image();
        Check.feed(x, Check.bytes("feast 1"));
        s.due("undone", true, x::undo);
        s.due("the SEED is as ahead of it", 3, () -> x.seed(3));
        s.due("fault()", 6, x::fault);
        s.due("the TAPE", 2, x::country);
        s.due("of the TAPE", 2, () -> x.count(10));
        s.dues("THE IMAGE", "true 1", x::back, () -> x.person(0, 5));
        s.due("with its SEED", 4, () -> x.seed(0));
        DayTables y = Check.land("days 3;village 0 1 2;person 0 9999;person 0 5;debt 0 1 9 in 0 made 1 due 2;chance 100");
        Check.law(y, "earn 4");
        String before = Check.all(y);
        y.dawns(50);
        s.due("LOST, EARNED, MISSED, TABLES of dawns", true, () -> y.count(14) > 0 && y.count(13) > 0);
        y.undo();
        s.due("as ahead of them", before, () -> Check.all(y));
        s.due("THE LAW stays", 4, () -> y.rule(0, 0, 2));
    }

    // ---- promises 40 and 41

    private void images() {
        s.holds(40, "THE IMAGE (one) of all may be kept, and gone back to");
        DayTables x = Check.land(LAND);
        Check.law(x, "earn 3;bar if day > 1");
        x.dawns(4);
        x.work(0, 1);
        x.go(1, 0);
        x.seed(77);
        x.image();
        String kept = Check.all(x);
        Check.country(x, "village 2 1 0;person 2 9;fact 2 0;road 2 0 5;debt 0 2 5 in 2 made 0 due 1;task 2 2 after 1;feast 2;chance 44;misprint 0 1 2");
        Check.law(x, "hush");
        x.dawns(150);
        x.tell(0, 2);
        s.due("another state", false, () -> kept.equals(Check.all(x)));
        s.holds(41, "One goes back to THE IMAGE: true; false, and nothing happens, if none was kept.");
        s.due("back", true, x::back);
        s.due("all is as it was", kept, () -> Check.all(x));
        s.dues("THE LAW too", "0 0 3", () -> x.rule(0, 0, 0), () -> x.rule(0, 0, 1), () -> x.rule(0, 0, 2));
        s.dues("what is told anew has the numbers that were free", "2 2 1", () -> Check.country(x, "village 1 2 0"), () -> x.page(2, 0),
            () -> x.day(2, 0));
        s.due("it is kept still", true, x::back);
        s.due("all is as it was again", kept, () -> Check.all(x));
        x.dawns(1);
        String later = Check.all(x);
        x.image();
        x.dawns(9);
        s.due("the later one alone", true, x::back);
        s.due("as it was later", later, () -> Check.all(x));
        DayTables log = Check.land(LAND);
        log.tell(0, 0);
        log.image();
        log.undo();
        log.tell(1, 1);
        s.dues("THE LOG of another life", "0 1 1 8", () -> log.log(0, 0), () -> log.log(0, 1), () -> log.log(0, 2), () -> log.log(0, 3));
        s.dues("THE LOG too", "true 0 0 0 8", log::back, () -> log.log(0, 0), () -> log.log(0, 1), () -> log.log(0, 2), () -> log.log(0, 3));
        DayTables y = new DayTables();
        y.image();
        for (int text = 0; text < 12; text++) {
            Check.country(y, text == 0 ? "days 16;feast 15" : "feast 1");
        }
        s.due("twelve texts", Sentences.UNSUPPORTED, y::country);
        s.dues("of nothing told", "true 0 7 0 1", y::back, () -> y.count(6), () -> y.count(9), () -> y.count(10), y::country);
    }

    private void imagesButFor() {
        s.holds(41, "(but for the TAPE, fault() and THE IMAGE itself)");
        DayTables x = Check.land(LAND);
        Check.feed(x, Check.bytes("feast 2"));
        x.image();
        x.end(5);
        Check.said(x::country);
        s.due("a text was wrong", 5, x::fault);
        Check.feed(x, Check.bytes("feast 1"));
        s.due("back", true, x::back);
        s.due("fault() stays", 5, x::fault);
        s.due("the TAPE stays", 2, x::country);
        s.due("it was the later one", 2, () -> x.count(10));
        s.due("THE IMAGE stays", true, x::back);
        s.due("as it was", 0, () -> x.count(10));
        s.holds(40, "`void image()`: THE IMAGE is kept.");
        DayTables y = Check.land(LAND);
        y.tell(0, 0);
        y.tell(1, 0);
        y.image();
        s.dues("acts can be undone still", "2 true 1", () -> y.count(19), y::undo, () -> y.count(19));
        s.dues("THE IMAGE is not undone", "true 1 1 0", y::back, () -> y.person(0, 5), () -> y.person(1, 5), () -> y.count(19));
    }

    private void noImage() {
        s.holds(41, "true; false, and nothing happens, if none was kept");
        DayTables x = Check.land(LAND);
        x.dawns(2);
        String before = Check.all(x);
        s.due("none", false, x::back);
        s.due("nothing happens", before, () -> Check.all(x));
        s.dues("acts stay", "1 true", () -> x.count(19), x::undo);
    }

    // ---- promise 42

    private void counts() {
        s.holds(42, "NONE for another what.");
        DayTables x = Check.land(LAND);
        s.dues("below, above, far", "-1 -1 -1 -1", () -> x.count(-1), () -> x.count(20), () -> x.count(Integer.MIN_VALUE),
            () -> x.count(Integer.MAX_VALUE));
        s.holds(42, "0 VILLAGES, 1 PEOPLE, 2 FACTS, 3 ROADS, 4 DEBTS, 5 TASKS, 6 texts of THE COUNTRY, 7 LINES of THE LAW (NONE without one)");
        Check.country(x, "task 0 2;debt 0 1 5 in 0 made 1 due 2;road 0 1 5;road 0 1 4;feast 0;feast 2;chance 100;fact 1 1;fact 1 1");
        s.dues("each", "2 2 4 3 1 3 2 -1", () -> x.count(0), () -> x.count(1), () -> x.count(2), () -> x.count(3), () -> x.count(4),
            () -> x.count(5), () -> x.count(6), () -> x.count(7));
        s.dues("LINES", "0 0 3 3", () -> Check.law(x, ""), () -> x.count(7), () -> Check.law(x, "bar;bar;earn 30"), () -> x.count(7));
        s.holds(42, "8 TIME, 9 D, 10 FEASTS, as bits, 11 COINS of all, 12 COINS told, 13 EARNED (without LOST), 14 LOST, 15 MISSED of all, "
            + "16 TASKS done, 17 rows of THE LOG, 18 CHANCE, 19 acts that can be UNDONE.");
        x.work(0, 0);
        s.dues("ahead of dawns", "0 3 5 30 30 0 0 0 1 0 100 1", () -> x.count(8), () -> x.count(9), () -> x.count(10), () -> x.count(11),
            () -> x.count(12), () -> x.count(13), () -> x.count(14), () -> x.count(15), () -> x.count(16), () -> x.count(17), () -> x.count(18),
            () -> x.count(19));
        x.dawns(2);
        s.dues("behind two", "2 3 5 150 30 120 0 0 1 4 100 2", () -> x.count(8), () -> x.count(9), () -> x.count(10), () -> x.count(11),
            () -> x.count(12), () -> x.count(13), () -> x.count(14), () -> x.count(15), () -> x.count(16), () -> x.count(17), () -> x.count(18),
            () -> x.count(19));
        DayTables y = Check.land("days 3;village 0 1 2;person 0 9999;person 0 9999;debt 0 1 9 in 0 made 1 due 2;debt 1 0 8 in 0 made 2 due 1");
        Check.law(y, "earn 7 if person < 1");
        y.dawns(2);
        s.dues("LOST, MISSED", "19998 19998 0 14 34", () -> y.count(11), () -> y.count(12), () -> y.count(13), () -> y.count(14),
            () -> y.count(15));
    }
}
