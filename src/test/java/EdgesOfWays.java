/** Edges of what can be FROM NOW ON, and of what one knew: promises 21 to 27, 35 and 36. */
final class EdgesOfWays {
    private static final String PAIR = "days 3;village 0 1 2;village 0 1 2;village 0 1 2;road 0 1 1;person 0 0;person 1 0";
    private static final String SIX = "days 6;village 0 1 2 3 4 5;village 0 1 2 3 4 5;village 0 1 2 3 4 5;village 0 1 2 3 4 5;person 0 0";
    private static final String TWO_ARGUMENTS = Sentences.ARGUMENT + " " + Sentences.ARGUMENT;
    private static final String TWO_INDICES = Sentences.INDEX + " " + Sentences.INDEX;

    private final Sentences s;

    EdgesOfWays(Sentences s) {
        this.s = s;
    }

    void all() {
        soonest();
        within();
        barredThen();
        tablesNow();
        firstRoads();
        noFirstRoad();
        meetings();
        cones();
        warned();
        warnedOnRoads();
        toldLeast();
        knew();
        feasted();
        feastedElsewhere();
        planned();
        plannedAfter();
        plannedInOrder();
        plannedWithin();
    }

    /** A law by which nobody sets out ahead of a TIME, where D is 3. */
    private static DayTables barredAhead(String land, int time) {
        DayTables x = Check.land(land);
        Check.law(x, "bar if printing < " + time / 3 + " or printing < " + (time / 3 + 1) + " and page < " + time % 3);
        return x;
    }

    private static String way(DayTables x, int person, int village, int day) {
        return x.soonest(person, village, day) + " by " + x.first(person, village, day);
    }

    private static String met(DayTables x, int one, int other) {
        return x.meeting(one, other, false) + " in " + x.meeting(one, other, true);
    }

    // ---- promises 21 and 22

    private void soonest() {
        s.holds(21, "the least TIME, NOW's too, at which one can be there so");
        DayTables x = Check.land(PAIR);
        s.dues("there now, on whatever DAY, on THE DAY", "0 0", () -> x.soonest(0, 0, -1), () -> x.soonest(0, 0, 0));
        s.dues("there on the next DAYS", "1 2", () -> x.soonest(0, 0, 1), () -> x.soonest(0, 0, 2));
        s.dues("a dawn away", "1 1 2 3", () -> x.soonest(0, 1, -1), () -> x.soonest(0, 1, 1), () -> x.soonest(0, 1, 2),
            () -> x.soonest(0, 1, 0));
        s.dues("no way there", "-1 -1", () -> x.soonest(0, 2, -1), () -> x.soonest(0, 2, 0));
        x.dawns(4);
        s.dues("from a later TIME on", "4 4 6 5", () -> x.soonest(0, 0, -1), () -> x.soonest(0, 0, 1), () -> x.soonest(0, 0, 0),
            () -> x.soonest(0, 1, -1));
        s.holds(21, "(or on whatever DAY: NONE)");
        s.dues("no other number below 0", TWO_INDICES, () -> x.soonest(0, 0, -2), () -> x.soonest(0, 0, Integer.MIN_VALUE));
        s.dues("D is no DAY", TWO_INDICES, () -> x.soonest(0, 0, 3), () -> x.first(0, 0, 3));
        s.dues("no PERSON", TWO_INDICES, () -> x.soonest(-1, 0, 0), () -> x.soonest(2, 0, 0));
        s.dues("no VILLAGE", TWO_INDICES, () -> x.soonest(0, -1, -1), () -> x.soonest(0, 3, -1));
        s.holds(22, "IndexOutOfBoundsException: there is no such VILLAGE, PERSON, FACT, ROAD, DEBT, TASK, DAY.");
        s.dues("no PERSON", TWO_INDICES, () -> x.first(-1, 0, 0), () -> x.first(2, 0, 0));
        s.dues("no VILLAGE", TWO_INDICES, () -> x.first(0, -1, -1), () -> x.first(0, 3, -1));
        s.dues("no DAY", TWO_INDICES, () -> x.first(0, 0, -2), () -> x.first(0, 1, 3));
        s.holds(21, "ON A ROAD, one is in no VILLAGE till one is there.");
        DayTables y = Check.land("days 3;village 0 1 2;village 0 1 2;road 0 1 5;person 0 0");
        y.go(0, 0);
        s.dues("there, and back", "5 10 6 12", () -> y.soonest(0, 1, -1), () -> y.soonest(0, 0, -1), () -> y.soonest(0, 1, 0),
            () -> y.soonest(0, 0, 0));
        y.dawns(4);
        s.dues("a dawn ahead of it", "5 10", () -> y.soonest(0, 1, -1), () -> y.soonest(0, 0, -1));
    }

    private void within() {
        s.holds(21, "at which one can be there so (within 200 dawns); none");
        DayTables in = barredAhead(PAIR, 199);
        s.due("200 dawns on", "200 by 0", () -> way(in, 0, 1, -1));
        s.due("on THE DAY there then", "200 by 0", () -> way(in, 0, 1, 2));
        s.due("a DAY later", "-1 by -1", () -> way(in, 0, 1, 0));
        DayTables waits = barredAhead(PAIR, 198);
        s.dues("there at 199, and waiting", "199 by 0 199 by 0 200 by 0 -1 by -1", () -> way(waits, 0, 1, -1), () -> way(waits, 0, 1, 1),
            () -> way(waits, 0, 1, 2), () -> way(waits, 0, 1, 0));
        DayTables beyond = barredAhead(PAIR, 200);
        s.dues("201 dawns on", "-1 by -1 -1 by -1", () -> way(beyond, 0, 1, -1), () -> way(beyond, 0, 1, 0));
        beyond.dawns(1);
        s.dues("200 dawns on from TIME 1", "201 by 0 201 by 0 -1 by -1", () -> way(beyond, 0, 1, -1), () -> way(beyond, 0, 1, 0),
            () -> way(beyond, 0, 1, 1));
        DayTables longest = barredAhead("days 3;village 0 1 2;village 0 1 2;road 0 1 5;person 0 0", 195);
        s.due("by a ROAD of 5", "200 by 0", () -> way(longest, 0, 1, -1));
        DayTables tooLong = barredAhead("days 3;village 0 1 2;village 0 1 2;road 0 1 5;person 0 0", 196);
        s.due("by a ROAD of 5, a dawn later", "-1 by -1", () -> way(tooLong, 0, 1, -1));
    }

    /** SOONEST to VILLAGE 1 by a law, now and behind so many dawns. */
    private void later(String what, String law, int now, int dawns, int then) {
        DayTables x = Check.land(PAIR, "fact 0 1;feast 0");
        Check.law(x, law);
        s.due(what + ", now", now, () -> x.soonest(0, 1, -1));
        x.dawns(dawns);
        s.due(what + ", behind " + dawns, then, () -> x.soonest(0, 1, -1));
    }

    private void barredThen() {
        s.holds(21, "(BARRED by facts known, DAYS lived, COINS as now, VILLAGE and TIME as they are then)");
        later("FACTS", "bar if known < 1", -1, 1, 2);
        later("DAYS", "bar if lived < 2", -1, 2, 3);
        later("DAYS LIVED by waiting", "bar if lived > 0", 1, 1, -1);
        later("again", "bar if not again", -1, 1, 2);
        later("again, in the next printing", "bar if again", 1, 1, 3);
        later("COINS", "earn 5;bar if coins < 5", -1, 1, 2);
        later("PAGE", "bar if page < 2", 3, 2, 3);
        later("DAY", "bar if day < 1", 2, 3, 5);
        later("a FEAST", "bar if feast", 2, 2, 3);
        later("PRINTING", "bar if printing < 2", 7, 6, 7);
        later("the last PRINTING", "bar if printing > 0", 1, 3, -1);
        later("VILLAGE 0", "bar if village < 1", -1, 1, -1);
        later("VILLAGE 1", "bar if village > 0", 1, 1, 2);
        later("PERSON 0", "bar if person < 1", -1, 1, -1);
        later("PERSON 1", "bar if person > 0", 1, 1, 2);
        later("SILENT is not BARRED", "hush", 1, 1, 2);
        DayTables x = Check.land("days 3;village 0 1 2;village 2 0 1;village 0 1 2;road 0 1 1;road 1 2 1;person 0 0");
        Check.law(x, "bar if day < 1 and village > 0");
        s.due("by THE DAY of the VILLAGE on the way: 0 on PAGE 1", 3, () -> x.soonest(0, 2, -1));
        Check.law(x, "bar if village > 0 and village < 2");
        s.due("never from there", -1, () -> x.soonest(0, 2, -1));
    }

    private void tablesNow() {
        s.holds(21, "TABLES stay as they are now.");
        DayTables x = Check.land("days 3;village 0 1 2;chance 100;person 0 0");
        x.dawns(2);
        s.dues("beyond PAGE 0", "3 4 2", () -> x.soonest(0, 0, 0), () -> x.soonest(0, 0, 1), () -> x.soonest(0, 0, 2));
        Check.country(x, "misprint 0 0 2");
        s.dues("as misprinted", "2 4 3", () -> x.soonest(0, 0, 0), () -> x.soonest(0, 0, 1), () -> x.soonest(0, 0, 2));
    }

    private void firstRoads() {
        s.holds(22, "(of several that by which one waits the longest ahead of it; then the least ROAD; none, if waiting alone does, or ON A ROAD)");
        DayTables x = Check.land(SIX, "road 0 1 2;road 0 1 1");
        s.due("the only one as soon", "1 by 1", () -> way(x, 0, 1, -1));
        s.due("the one that leaves later", "2 by 1", () -> way(x, 0, 1, 2));
        s.due("the one that leaves later, of many", "5 by 1", () -> way(x, 0, 1, 5));
        Check.law(x, "bar if page > 0 and page < 2 and village < 1");
        s.due("barred at the later TIME, so the least ROAD at the TIME ahead of it", "2 by 0", () -> way(x, 0, 1, 2));
        DayTables y = Check.land(SIX, "road 1 0 3;road 1 0 3;road 0 1 3");
        s.due("the least of three", "3 by 0", () -> way(y, 0, 1, -1));
        DayTables z = Check.land(SIX, "road 0 2 1;road 0 1 1;road 1 3 1;road 2 3 1");
        s.due("the least of two ways", "2 by 0", () -> way(z, 0, 3, -1));
        DayTables w = Check.land(SIX, "road 0 1 1;road 0 2 1;road 1 3 2;road 2 3 1");
        s.due("the way as soon", "2 by 1", () -> way(w, 0, 3, -1));
        s.due("the way that leaves later", "3 by 1", () -> way(w, 0, 3, 3));
        DayTables v = Check.land(SIX, "road 0 1 3;road 0 1 1;road 1 2 1");
        Check.law(v, "bar if village > 0 and page < 3");
        s.due("the wait on the way is not ahead of it", "4 by 1", () -> way(v, 0, 2, -1));
        DayTables u = Check.land(SIX, "road 0 1 5;road 0 2 1;road 2 3 1;road 3 1 1");
        s.due("three ROADS are sooner than one", "3 by 1", () -> way(u, 0, 1, -1));
        s.due("and leave later", "5 by 1", () -> way(u, 0, 1, 5));
        DayTables t = Check.land(SIX, "road 2 3 1;road 1 2 1;road 0 1 1");
        s.due("the first of a chain", "3 by 2", () -> way(t, 0, 3, -1));
        t.dawns(2);
        s.due("the last ROAD, now", "3 by 2", () -> way(t, 0, 1, -1));
    }

    private void noFirstRoad() {
        s.holds(22, "none, if waiting alone does, or ON A ROAD");
        DayTables x = Check.land(SIX, "road 0 1 1;road 0 1 1");
        s.dues("waiting alone does", "0 by -1 0 by -1 5 by -1", () -> way(x, 0, 0, -1), () -> way(x, 0, 0, 0), () -> way(x, 0, 0, 5));
        s.due("no way", "-1 by -1", () -> way(x, 0, 2, -1));
        x.go(0, 0);
        s.dues("ON A ROAD, there or back", "1 by -1 2 by -1 6 by -1", () -> way(x, 0, 1, -1), () -> way(x, 0, 0, -1), () -> way(x, 0, 0, 0));
        x.dawns(1);
        s.due("there", "2 by 0", () -> way(x, 0, 0, -1));
        Check.law(x, "bar");
        s.dues("BARRED for ever", "1 by -1 -1 by -1", () -> way(x, 0, 1, -1), () -> way(x, 0, 0, -1));
    }

    // ---- promises 23 and 24

    private void meetings() {
        s.holds(23, "the least TIME (within 200 dawns) at which both can be in one VILLAGE; the least such VILLAGE; none");
        DayTables in = barredAhead(PAIR, 199);
        s.dues("200 dawns on", "200 in 0 200 in 0", () -> met(in, 0, 1), () -> met(in, 1, 0));
        DayTables beyond = barredAhead(PAIR, 200);
        s.due("201 dawns on", "-1 in -1", () -> met(beyond, 0, 1));
        beyond.dawns(1);
        s.due("200 dawns on from TIME 1", "201 in 0", () -> met(beyond, 0, 1));
        DayTables x = Check.land(PAIR, "person 1 0;person 2 0;road 1 2 1");
        s.dues("now", "0 in 1 0 in 1", () -> met(x, 1, 2), () -> met(x, 2, 1));
        s.dues("the lesser of two VILLAGES", "1 in 0 1 in 1", () -> met(x, 0, 1), () -> met(x, 2, 3));
        s.due("half way, and no sooner", "1 in 1", () -> met(x, 0, 3));
        Check.law(x, "bar if person < 1");
        s.dues("one stays", "1 in 0 2 in 0", () -> met(x, 0, 1), () -> met(x, 0, 3));
        DayTables far = Check.land("days 3;village 0 1 2;village 0 1 2;village 0 1 2;road 0 1 5;road 0 2 5;road 1 2 1;person 1 0;person 2 0");
        s.due("the least TIME ahead of the least VILLAGE", "1 in 1", () -> met(far, 0, 1));
        Check.law(far, "bar if person < 1");
        s.due("the first one BARRED", "1 in 1", () -> met(far, 0, 1));
        Check.law(far, "bar if person > 0");
        s.due("the second one BARRED", "1 in 2", () -> met(far, 0, 1));
        DayTables road = Check.land("days 3;village 0 1 2;village 0 1 2;road 0 1 2;road 0 1 5;person 0 0;person 0 0;person 1 0");
        road.go(0, 0);
        s.dues("ON A ROAD to the other one", "2 in 1", () -> met(road, 0, 2));
        s.due("behind one ON A ROAD", "2 in 1", () -> met(road, 0, 1));
        road.go(1, 1);
        s.due("both ON A ROAD, at the later TIME", "5 in 1", () -> met(road, 0, 1));
        s.holds(23, "IllegalArgumentException: both are one.");
        s.dues("both are one", TWO_ARGUMENTS, () -> x.meeting(0, 0, true), () -> x.meeting(3, 3, false));
        s.dues("there is no such PERSON", TWO_INDICES + " " + TWO_INDICES, () -> x.meeting(4, 4, true), () -> x.meeting(-1, -1, false),
            () -> x.meeting(0, 4, true), () -> x.meeting(-1, 0, false));
    }

    private void cones() {
        s.holds(24, "CONE of a PERSON by N dawns (0 to 200): VILLAGES in which one can be at TIME and N, as bits.");
        DayTables x = Check.land("days 3;village 0 1 2;village 0 1 2;village 0 1 2;village 0 1 2;road 0 1 5;road 1 2 1;person 0 0;person 3 0");
        s.dues("by 0, 4, 5, 6, 200", "1 1 3 7 7", () -> x.cone(0, 0), () -> x.cone(0, 4), () -> x.cone(0, 5), () -> x.cone(0, 6),
            () -> x.cone(0, 200));
        s.dues("no ROAD", "8 8", () -> x.cone(1, 0), () -> x.cone(1, 200));
        x.go(0, 0);
        s.dues("ON A ROAD", "0 0 2 6 6 7", () -> x.cone(0, 0), () -> x.cone(0, 4), () -> x.cone(0, 5), () -> x.cone(0, 6), () -> x.cone(0, 9),
            () -> x.cone(0, 10));
        x.dawns(4);
        s.dues("ON A ROAD still", "0 2", () -> x.cone(0, 0), () -> x.cone(0, 1));
        DayTables in = barredAhead(PAIR, 199);
        s.dues("by 199, 200", "1 3", () -> in.cone(0, 199), () -> in.cone(0, 200));
        in.dawns(1);
        s.dues("from TIME 1 on", "1 3", () -> in.cone(0, 198), () -> in.cone(0, 199));
        s.holds(24, "IllegalArgumentException: N is none.");
        s.dues("-1, 201", TWO_ARGUMENTS, () -> x.cone(0, -1), () -> x.cone(0, 201));
        s.dues("far", TWO_ARGUMENTS, () -> x.cone(0, Integer.MIN_VALUE), () -> x.cone(0, Integer.MAX_VALUE));
        s.dues("no PERSON", TWO_INDICES, () -> x.cone(-1, -1), () -> x.cone(2, 201));
    }

    // ---- promises 25 and 26

    private void warned() {
        s.holds(25, "as soon as that PERSON, or one who was told, can be there");
        String line = "days 3;village 0 1 2;village 0 1 2;village 0 1 2;village 0 1 2;road 0 1 2;road 1 2 1;person 0 0;person 1 0;person 2 0;"
            + "person 3 0;person 0 0";
        DayTables x = Check.land(line);
        s.dues("by 0, 1, 2, 3, 200", "17 17 19 23 23", () -> x.warned(0, 0), () -> x.warned(0, 1), () -> x.warned(0, 2), () -> x.warned(0, 3),
            () -> x.warned(0, 200));
        s.dues("of another one", "2 6 23", () -> x.warned(1, 0), () -> x.warned(1, 1), () -> x.warned(1, 2));
        Check.law(x, "bar if person < 1 and village > 0 or person > 3");
        s.dues("one who was told goes on", "19 23", () -> x.warned(0, 2), () -> x.warned(0, 3));
        Check.law(x, "bar if person < 1 and village > 0 or person > 0");
        s.dues("one who was told may not", "19 19", () -> x.warned(0, 2), () -> x.warned(0, 200));
        Check.law(x, "bar if person < 1");
        s.dues("one there from the first on may", "17 23", () -> x.warned(0, 0), () -> x.warned(0, 200));
        s.holds(25, "(nobody is SILENT)");
        Check.law(x, "hush");
        s.dues("by 0, 2, 3", "17 19 23", () -> x.warned(0, 0), () -> x.warned(0, 2), () -> x.warned(0, 3));
        s.holds(25, "who is told by TIME and N, as bits, that PERSON, too");
        s.dues("alone", "8 8", () -> x.warned(3, 0), () -> x.warned(3, 200));
        DayTables in = barredAhead(PAIR, 199);
        s.dues("by 199, 200", "1 3 2 3", () -> in.warned(0, 199), () -> in.warned(0, 200), () -> in.warned(1, 199), () -> in.warned(1, 200));
        in.dawns(1);
        s.dues("from TIME 1 on", "1 3", () -> in.warned(0, 198), () -> in.warned(0, 199));
        DayTables chain = Check.land("days 3;village 0 1 2;village 0 1 2;village 0 1 2;village 0 1 2;road 0 1 1;road 0 2 3;road 1 2 1;road 2 3 1;"
            + "person 0 0;person 1 0;person 2 0;person 3 0");
        Check.law(chain, "bar if village > person");
        s.dues("the soonest told is the first to go on", "1 3 7 15", () -> chain.warned(0, 0), () -> chain.warned(0, 1), () -> chain.warned(0, 2),
            () -> chain.warned(0, 3));
        s.holds(25, "IllegalArgumentException: N is none (0 to 200).");
        s.dues("-1, 201", TWO_ARGUMENTS, () -> x.warned(0, -1), () -> x.warned(0, 201));
        s.dues("no PERSON", TWO_INDICES, () -> x.warned(-1, -1), () -> x.warned(5, 201));
    }

    private void warnedOnRoads() {
        s.holds(25, "(or come to where they go, and stay there), till they are told");
        DayTables x = Check.land("days 3;village 0 1 2;village 0 1 2;village 0 1 2;road 0 1 1;road 2 1 5;person 0 0;person 2 0;person 0 0");
        s.dues("one who stays where there is no way", "5 5", () -> x.warned(0, 0), () -> x.warned(0, 4));
        x.go(1, 1);
        s.dues("one who comes", "7", () -> x.warned(0, 200));
        s.holds(25, "(not ahead of when they are there themselves)");
        s.dues("by 0, 4, 5", "5 5 7", () -> x.warned(0, 0), () -> x.warned(0, 4), () -> x.warned(0, 5));
        s.holds(25, "each who is told goes on from there then");
        s.dues("the PERSON ON A ROAD: itself, then those it comes to", "2 2 2 7 7", () -> x.warned(1, 0), () -> x.warned(1, 4),
            () -> x.warned(1, 5), () -> x.warned(1, 6), () -> x.warned(1, 200));
        Check.law(x, "bar if person < 1 and printing > 0 or person > 0 and person < 2");
        s.dues("on from there, but BARRED", "2 2", () -> x.warned(1, 6), () -> x.warned(1, 200));
        DayTables y = Check.land("days 3;village 0 1 2;village 0 1 2;road 0 1 2;person 0 0;person 0 0");
        y.go(0, 0);
        y.go(1, 0);
        s.dues("two on one ROAD tell nothing till they are there", "1 1 3", () -> y.warned(0, 0), () -> y.warned(0, 1), () -> y.warned(0, 2));
    }

    private void toldLeast() {
        s.holds(26, "the fewest PEOPLE who must know it now so that all are WARNED by N dawns, each as if alone: of several the least as bits");
        DayTables none = Check.land("days 3;village 0 1 2");
        s.due("of nobody", 0, () -> none.least(0));
        DayTables eight = Check.land("days 3;village 0 1 2;person 0 0;person 0 0;person 0 0;person 0 0;person 0 0;person 0 0;person 0 0;person 0 0");
        s.dues("all eight in one VILLAGE", "1 1", () -> eight.least(0), () -> eight.least(200));
        DayTables parted = Check.land("days 3;village 0 1 2;village 0 1 2;person 0 0;person 0 0;person 1 0;person 1 0");
        s.dues("the least of each VILLAGE", "5 5", () -> parted.least(0), () -> parted.least(200));
        DayTables lone = Check.land("days 3;village 0 1 2;village 0 1 2;village 0 1 2;person 0 0;person 2 0;person 1 0");
        s.due("all of them", 7, () -> lone.least(200));
        DayTables star = Check.land("days 3;village 0 1 2;village 0 1 2;village 0 1 2;road 2 0 1;road 2 1 1;person 0 0;person 1 0;person 2 0");
        s.dues("one in the middle, though two are less as bits", "7 4 1", () -> star.least(0), () -> star.least(1), () -> star.least(2));
        Check.law(star, "bar if person < 2");
        s.dues("one alone can go", "4 4", () -> star.least(1), () -> star.least(200));
        Check.law(star, "bar");
        s.due("nobody can go", 7, () -> star.least(200));
        DayTables in = barredAhead(PAIR, 199);
        s.dues("by 199, 200", "3 1", () -> in.least(199), () -> in.least(200));
        DayTables road = Check.land("days 3;village 0 1 2;village 0 1 2;road 0 1 2;person 0 0;person 1 0");
        road.go(0, 0);
        s.dues("one ON A ROAD", "3 3 1", () -> road.least(0), () -> road.least(1), () -> road.least(2));
        s.holds(26, "IllegalArgumentException likewise.");
        s.dues("-1, 201", TWO_ARGUMENTS, () -> none.least(-1), () -> eight.least(201));
        s.dues("far", TWO_ARGUMENTS, () -> none.least(Integer.MIN_VALUE), () -> eight.least(Integer.MAX_VALUE));
    }

    // ---- promise 27

    private void knew() {
        s.holds(27, "all that is known now but for what came, by THE LOG, later");
        DayTables x = Check.land("days 3;village 0 1 2;person 0 0;person 0 0;fact 0 1;fact 0 0;fact 0 2");
        x.tell(0, 2);
        s.dues("at TIME 0", "4 0", () -> x.knew(0, 0), () -> x.knew(1, 0));
        x.dawns(3);
        s.dues("of one, TIME 0 to 4", "4 5 5 7 7", () -> x.knew(0, 0), () -> x.knew(0, 1), () -> x.knew(0, 2), () -> x.knew(0, 3), () -> x.knew(0, 4));
        s.dues("of another, told at TIME 1", "0 5 5 7", () -> x.knew(1, 0), () -> x.knew(1, 1), () -> x.knew(1, 2), () -> x.knew(1, 3));
        s.due("far from now", 7, () -> x.knew(0, Integer.MAX_VALUE));
        x.undo();
        s.dues("undone", "4 0", () -> x.knew(0, 3), () -> x.knew(1, 3));
        s.holds(27, "IllegalArgumentException: TIME is below 0.");
        s.dues("below", TWO_ARGUMENTS, () -> x.knew(0, -1), () -> x.knew(0, Integer.MIN_VALUE));
        s.dues("no PERSON", TWO_INDICES, () -> x.knew(-1, -1), () -> x.knew(2, -1));
    }

    // ---- promise 35

    private void feasted() {
        s.holds(35, "FEASTED by N dawns (1 to 60): the most dawns, from the next one on");
        DayTables x = Check.land("days 3;village 0 1 2;person 0 0;feast 0");
        s.dues("NOW's counts not: by 1, 2, 3, 59, 60", "0 0 1 19 20", () -> x.feasted(0, 1), () -> x.feasted(0, 2), () -> x.feasted(0, 3),
            () -> x.feasted(0, 59), () -> x.feasted(0, 60));
        x.dawns(2);
        s.dues("from TIME 2 on, the next one", "1 1 1 2", () -> x.feasted(0, 1), () -> x.feasted(0, 2), () -> x.feasted(0, 3),
            () -> x.feasted(0, 4));
        Check.country(x, "feast 1;feast 2");
        s.dues("each dawn", "1 60", () -> x.feasted(0, 1), () -> x.feasted(0, 60));
        DayTables none = Check.land("days 3;village 0 1 2;person 0 0");
        s.due("no FEAST", 0, () -> none.feasted(0, 60));
        s.holds(35, "IllegalArgumentException: N is none.");
        s.dues("0, 61", TWO_ARGUMENTS, () -> x.feasted(0, 0), () -> x.feasted(0, 61));
        s.dues("far", TWO_ARGUMENTS, () -> x.feasted(0, -1), () -> x.feasted(0, Integer.MAX_VALUE));
        s.dues("no PERSON", TWO_INDICES, () -> x.feasted(-1, 0), () -> x.feasted(1, 61));
    }

    private void feastedElsewhere() {
        s.holds(35, "at which a PERSON can be in a VILLAGE that has a FEAST then");
        DayTables x = Check.land("days 3;village 0 1 2;village 1 2 0;road 0 1 1;person 0 0;feast 0");
        s.dues("to and fro: by 1, 2, 3, 5, 6, 60", "0 1 2 3 4 40", () -> x.feasted(0, 1), () -> x.feasted(0, 2), () -> x.feasted(0, 3),
            () -> x.feasted(0, 5), () -> x.feasted(0, 6), () -> x.feasted(0, 60));
        Check.law(x, "bar if village > 0");
        s.due("one way", 20, () -> x.feasted(0, 60));
        Check.law(x, "bar if village < 1 and printing < 19");
        s.due("to and fro from TIME 57 on", 19 + 2, () -> x.feasted(0, 60));
        Check.law(x, "bar");
        s.due("waiting alone", 20, () -> x.feasted(0, 60));
        DayTables y = Check.land("days 3;village 0 1 2;village 0 1 2;road 0 1 5;person 0 0;feast 0;feast 1;feast 2");
        y.go(0, 0);
        s.dues("ON A ROAD: by 1, 4, 5, 6, 60", "0 0 1 2 56", () -> y.feasted(0, 1), () -> y.feasted(0, 4), () -> y.feasted(0, 5),
            () -> y.feasted(0, 6), () -> y.feasted(0, 60));
        y.dawns(4);
        s.dues("a dawn ahead of it", "1 60", () -> y.feasted(0, 1), () -> y.feasted(0, 60));
        DayTables apart = Check.land("days 6;village 0 1 2 3 4 5;village 0 4 5 1 2 3;village 0 1 2 3 4 5;road 1 2 1;person 0 0;feast 4;feast 5");
        s.dues("not in one that no ROAD leads to", "0 0 1 2", () -> apart.feasted(0, 1), () -> apart.feasted(0, 3), () -> apart.feasted(0, 4),
            () -> apart.feasted(0, 6));
        DayTables z = Check.land("days 6;village 0 1 2 3 4 5;village 5 4 1 2 3 0;road 0 1 2;person 0 0;feast 1;feast 2;feast 3");
        s.dues("those that a ROAD costs are lost", "3 3 4", () -> z.feasted(0, 3), () -> z.feasted(0, 4), () -> z.feasted(0, 7));
    }

    // ---- promise 36

    private static String planned(DayTables x, int person, int tasks) {
        return x.plan(person, tasks, false) + " by " + x.plan(person, tasks, true);
    }

    private void planned() {
        s.holds(36, "PLAN of a PERSON for a set of TASKS (5 at most that are not done, else -3)");
        DayTables x = Check.land("days 3;village 0 1 2;person 0 0;person 0 0", "task 0 0;task 0 0;task 0 0;task 0 0;task 0 0;task 0 0;task 0 1");
        s.dues("five, six, all", "12 by 0 -3 by -3 -3 by -3", () -> planned(x, 0, 31), () -> planned(x, 0, 63), () -> planned(x, 0, 127));
        s.dues("another five", "12 by 1 9 by 2", () -> planned(x, 0, 62), () -> planned(x, 0, 4 | 8 | 16 | 32 | 64));
        x.work(1, 5);
        s.dues("six, of which one is done", "12 by 0 -3 by -3", () -> planned(x, 0, 63), () -> planned(x, 0, 127));
        s.holds(36, "(one a dawn at most, NOW's too; each in its VILLAGE on its DAY;");
        s.dues("one now", "0 by 0", () -> planned(x, 0, 1));
        s.dues("two of one DAY", "3 by 0 3 by 1", () -> planned(x, 0, 3), () -> planned(x, 0, 6));
        s.dues("two DAYS", "1 by 0 1 by 6", () -> planned(x, 0, 1 | 64), () -> planned(x, 0, 64));
        s.holds(36, "those that are done count for nothing");
        s.dues("all done", "0 by -1 0 by 1", () -> planned(x, 0, 32), () -> planned(x, 0, 32 | 2));
        s.holds(36, "(TIME is NOW's without any.)");
        x.dawns(4);
        s.dues("without any", "4 by -1 4 by -1", () -> planned(x, 0, 0), () -> planned(x, 1, 32));
        s.holds(36, "Sets are bits; of none they count for nothing.");
        s.dues("bits of no TASK", "4 by -1 4 by -1 4 by 6", () -> planned(x, 0, 128), () -> planned(x, 0, ~127), () -> planned(x, 0, ~63));
        s.due("all bits", "-3 by -3", () -> planned(x, 0, -1));
        s.due("the highest bit", "6 by 0", () -> planned(x, 0, 1 | Integer.MIN_VALUE));
        DayTables none = Check.land("days 3;village 0 1 2;person 0 0");
        s.dues("there are no TASKS", "0 by -1", () -> planned(none, 0, -1));
        s.holds(36, "IndexOutOfBoundsException: there is no such VILLAGE, PERSON, FACT, ROAD, DEBT, TASK, DAY.");
        s.dues("no PERSON, though too many", TWO_INDICES, () -> x.plan(-1, -1, true), () -> x.plan(2, -1, false));
    }

    private void plannedAfter() {
        s.holds(36, "AFTER done ahead of it, as one of these, or already");
        DayTables x = Check.land("days 3;village 0 1 2;person 0 0", "task 0 0;task 0 0 after 0;task 0 2 after 1;task 0 0 after 0;task 0 1 after 0");
        s.dues("as one of these", "3 by 0 5 by 0", () -> planned(x, 0, 3), () -> planned(x, 0, 7));
        s.dues("on another DAY", "1 by 0", () -> planned(x, 0, 1 | 16));
        s.dues("not one of these", "-1 by -1 -1 by -1 -1 by -1", () -> planned(x, 0, 2), () -> planned(x, 0, 1 | 4), () -> planned(x, 0, 2 | 4));
        s.dues("two AFTER one", "6 by 0", () -> planned(x, 0, 1 | 2 | 8));
        x.work(0, 0);
        s.dues("already", "0 by 1 2 by 1 3 by 1", () -> planned(x, 0, 2), () -> planned(x, 0, 2 | 4), () -> planned(x, 0, 2 | 8));
        s.dues("already, and told again", "0 by 1", () -> planned(x, 0, 1 | 2));
        s.dues("not already what is AFTER it", "-1 by -1", () -> planned(x, 0, 4));
        s.dues("-3 ahead of none", "-3 by -3", () -> {
            DayTables six = Check.land("days 3;village 0 1 2;person 0 0", "task 0 0;task 0 0 after 0;task 0 0 after 0;task 0 0 after 0;"
                + "task 0 0 after 0;task 0 0 after 0;task 0 0 after 0");
            return planned(six, 0, 126);
        });
    }

    private void plannedInOrder() {
        s.holds(36, "the TASK that is done first in the first such order (by numbers)");
        DayTables x = Check.land("days 3;village 0 1 2;village 0 1 2;road 0 1 5;person 0 0;person 1 0", "task 0 1;task 0 0;task 1 2;task 0 2;task 0 1");
        s.dues("the soonest order", "1 by 1 2 by 0 2 by 1", () -> planned(x, 0, 3), () -> planned(x, 0, 1 | 8), () -> planned(x, 0, 1 | 2 | 8));
        s.dues("of two as soon", "4 by 0", () -> planned(x, 0, 1 | 16));
        s.due("of two as soon, the one that does its first TASK later", "8 by 0", () -> planned(x, 0, 7));
        s.dues("from the other VILLAGE", "6 by 1 9 by 2", () -> planned(x, 1, 2), () -> planned(x, 1, 2 | 4));
        s.holds(36, "PLAN: TIME (first false), or the TASK that is done first (NONE without any); NONE; -3.");
        x.go(0, 0);
        s.dues("ON A ROAD", "5 by 2 12 by 1 10 by 0 0 by -1", () -> planned(x, 0, 4), () -> planned(x, 0, 2), () -> planned(x, 0, 1),
            () -> planned(x, 0, 0));
        Check.law(x, "bar");
        s.dues("BARRED", "5 by 2 -1 by -1 -1 by -1", () -> planned(x, 0, 4), () -> planned(x, 0, 1), () -> planned(x, 0, 5));
    }

    private void plannedWithin() {
        s.holds(36, "none within 400 dawns");
        String land = "days 3;village 0 1 2;village 0 1 2;road 0 1 1;person 0 0;task 1 1;task 1 2;task 1 0;task 0 0";
        DayTables in = barredAhead(land, 399);
        s.dues("400 dawns on", "400 by 0", () -> planned(in, 0, 1));
        s.dues("401, 402 dawns on", "-1 by -1 -1 by -1", () -> planned(in, 0, 2), () -> planned(in, 0, 4));
        s.dues("one at home ahead of it", "400 by 3", () -> planned(in, 0, 1 | 8));
        s.dues("two there", "-1 by -1", () -> planned(in, 0, 3));
        DayTables last = barredAhead(land, 399);
        Check.country(last, "person 0 0;person 0 0;person 0 0;person 0 0;person 0 0;person 0 0;person 0 0");
        s.dues("of the last of eight", "400 by 0 -1 by -1", () -> planned(last, 7, 1), () -> planned(last, 7, 3));
        DayTables beyond = barredAhead(land, 400);
        s.dues("a dawn later", "-1 by -1 -1 by -1 -1 by -1", () -> planned(beyond, 0, 1), () -> planned(beyond, 0, 2), () -> planned(beyond, 0, 4));
        beyond.dawns(1);
        s.dues("400 dawns on from TIME 1", "-1 by -1 401 by 1 -1 by -1", () -> planned(beyond, 0, 1), () -> planned(beyond, 0, 2),
            () -> planned(beyond, 0, 4));
        DayTables ahead = barredAhead(land, 397);
        s.dues("398, 399 and 400", "400 by 1 399 by 1", () -> planned(ahead, 0, 7), () -> planned(ahead, 0, 6));
    }
}
