/** For each promise ordinary inputs, edges and wrong inputs; answers worked out by hand. */
public final class PromisesTest {
    private static final int NONE = Check.NONE, UNKNOWN = Check.UNKNOWN, OUTSIDE = Check.OUTSIDE, NOT = Check.NOT, FULL = Check.FULL;
    private static final int LEAST = Check.LEAST, MOST = Check.MOST;
    private static final String PAIR = Check.PAIR;
    private static final int[] ROWS = new int[33];

    public static void main(String[] args) {
        newObject();
        feed();
        landResets();
        landFaults();
        fault();
        told();
        town();
        road();
        stay();
        walk();
        war();
        home();
        drift();
        undo();
        may();
        reach();
        best();
        seals();
        two();
        idle();
        stranded();
        snow();
        seal();
        fits();
        bought();
        was();
        ask();
        write();
        tear();
        judge();
        seed();
        keep();
        goBack();
        for (int promise = 1; promise < ROWS.length; promise++) {
            Check.holds("the promise " + promise + " has a row", ROWS[promise] > 0);
        }
        Check.end("PromisesTest");
    }

    /** Each row names its promise first. */
    private static void due(String call, int got, int want) {
        ROWS[Integer.parseInt(call.substring(0, call.indexOf(':')))]++;
        Check.due(call, got, want);
    }

    private static JourneyRoads land(String text) {
        return Check.land(text);
    }

    private static void stays(JourneyRoads x, int n) {
        Check.stays(x, n);
    }

    private static void walks(JourneyRoads x, int n) {
        Check.walks(x, n);
    }

    private static void newObject() {
        JourneyRoads x = new JourneyRoads();
        for (int what = 0; what <= 14; what++) {
            due("1: told(" + what + ") of a new object", x.told(what), 0);
        }
        due("1: fault()", x.fault(), NONE);
        due("1: town(0, 0)", x.town(0, 0), UNKNOWN);
        due("1: road(0, 0)", x.road(0, 0), UNKNOWN);
        due("1: stay()", x.stay(), NOT);
        due("1: walk(0)", x.walk(0), UNKNOWN);
        due("1: war(0, true)", x.war(0, true), UNKNOWN);
        due("1: home()", x.home(), NOT);
        due("1: drift(1)", x.drift(1), NOT);
        due("1: undo()", x.undo(), NOT);
        due("1: may(0)", x.may(0), NOT);
        due("1: may(1)", x.may(1), NOT);
        due("1: reach(0)", x.reach(0), UNKNOWN);
        due("1: best(1, -1)", x.best(1, NONE), NOT);
        due("1: seals(0)", x.seals(0), NOT);
        due("1: seals(1)", x.seals(1), UNKNOWN);
        due("1: two(0)", x.two(0), UNKNOWN);
        due("1: idle()", x.idle(), 4095);
        due("1: stranded()", x.stranded(), 0);
        due("1: seal(0, 0)", x.seal(0, 0), UNKNOWN);
        due("1: fits()", x.fits(), 0);
        due("1: bought()", x.bought(), 0);
        due("1: was(0)", x.was(0), 0);
        due("1: was(48)", x.was(48), 0);
        due("1: ask()", x.ask(), NONE);
        due("1: write(0)", x.write(0), 1);
        due("1: judge()", x.judge(), NONE);
        due("1: goBack(0)", x.goBack(0), NOT);
        due("1: keep(0)", x.keep(0), 1);
        due("1: goBack(0) behind keep(0)", x.goBack(0), 1);
    }

    private static void feed() {
        JourneyRoads x = new JourneyRoads();
        due("2: feed(-1)", x.feed(-1), OUTSIDE);
        due("2: feed(256)", x.feed(256), OUTSIDE);
        due("2: feed(least)", x.feed(LEAST), OUTSIDE);
        due("2: feed(most)", x.feed(MOST), OUTSIDE);
        for (int i = 1; i <= 240; i++) {
            due("2: feed the letter " + i, x.feed(i == 1 ? 0 : 255), i);
        }
        due("2: feed beyond 240", x.feed(32), FULL);
        due("2: OUTSIDE ahead of FULL", x.feed(256), OUTSIDE);
        due("2: told(4)", x.told(4), 240);
        due("2: land()", x.land(), -11);
        due("2: told(4) behind land()", x.told(4), 0);
        due("2: feed again", x.feed(108), 1);
    }

    private static void landResets() {
        JourneyRoads x = land(PAIR);
        x.seed(77);
        x.stay();
        x.keep(0);
        x.keep(1);
        walks(x, 1);
        stays(x, 1);
        x.war(0, true);
        x.seal(1, 1);
        x.write(3);
        Check.feed(x, "l1 0;t");
        due("3: land() with a FAULT", x.land(), -11);
        due("3: its text is gone", x.told(4), 0);
        int[] kept = {1, 0, 2, 1, 0, 3, 1, 1, 3, 3, 1, 0, 1, 1, 3};
        for (int what = 0; what < kept.length; what++) {
            due("3: a FAULT leaves told(" + what + ")", x.told(what), kept[what]);
        }
        Check.feed(x, "l3 5;t60 1 2;");
        due("3: land()", x.land(), 1);
        int[] fresh = {3, 5, 1, 0, 0, 0, 0, 0, 0, 0, 0, 0, 0, 0, 0};
        for (int what = 0; what < fresh.length; what++) {
            due("3: land() makes told(" + what + ")", x.told(what), fresh[what]);
        }
        due("3: IMAGE 0 is gone", x.goBack(0), NOT);
        due("3: IMAGE 1 is gone", x.goBack(1), NOT);
        due("3: undo() is gone", x.undo(), NOT);
        due("3: THE SEED stays", x.seed(0), 77);
        due("3: an empty text", x.land(), 0);
        due("3: no LAND, told(0)", x.told(0), 0);
        due("3: no LAND, told(1)", x.told(1), 0);
        due("3: no LAND, told(2)", x.told(2), 0);
        due("3: no LAND, stay()", x.stay(), NOT);
        JourneyRoads y = land("l1 0;t0 0 0;");
        stays(y, 1);
        Check.feed(y, "l1 0;");
        due("3: a land without TOWNS", y.land(), 0);
        due("3: its R", y.told(0), 1);
        due("3: its month", y.told(5), 0);
        due("3: its IDLE", y.idle(), 4095);
    }

    private static void faultOf(String text, int number, int letter) {
        JourneyRoads x = new JourneyRoads();
        Check.feed(x, text);
        due("3: land() of '" + text + "'", x.land(), -10 - number);
        due("4: fault() of '" + text + "'", x.fault(), letter);
        due("3: no LAND by '" + text + "'", x.told(0) + x.told(2) + x.told(3), 0);
    }

    private static void fine(String text, int towns) {
        JourneyRoads x = new JourneyRoads();
        Check.feed(x, text);
        due("3: land() of '" + text + "'", x.land(), towns);
        due("4: fault() of '" + text + "'", x.fault(), NONE);
    }

    private static void landFaults() {
        String town = "t50 1 1;";
        fine("l1 0;", 0);
        fine("l4 11;", 0);
        fine("  l  4  11  ;  t  999  4095  20  ;  ", 1);
        fine("l0001 0011;t0999 0000 0020;", 1);
        fine("l1 0;" + town.repeat(8), 8);
        fine("l1 0;" + town.repeat(2) + "r1 0;", 2);
        fine("   ", 0);
        faultOf("x", 1, 0);
        faultOf(" t0 0 0;", 1, 1);
        faultOf(";", 1, 0);
        faultOf("1", 1, 0);
        faultOf("12345", 1, 0);
        faultOf("l", 1, 1);
        faultOf("l ", 1, 2);
        faultOf("l1", 1, 2);
        faultOf("l1 0", 1, 4);
        faultOf("l1 0 ", 1, 5);
        faultOf("l1;", 1, 2);
        faultOf("l1 0 0;", 1, 5);
        faultOf("l1 0 12345;", 1, 5);
        faultOf("l1 l", 1, 3);
        faultOf("l1 0;;", 1, 5);
        faultOf("l1 0;L", 1, 5);
        faultOf("l1 0;\t", 1, 5);
        faultOf("l-1 0;", 1, 1);
        faultOf("l0 0;", 2, 1);
        faultOf("l5 0;", 2, 1);
        faultOf("l11;", 2, 1);
        faultOf("l00001 0;", 2, 1);
        faultOf("l99999999999999999999 0;", 2, 1);
        faultOf("l4294967297 0;", 2, 1);
        faultOf("l1 12;", 2, 3);
        faultOf("l1 0;t1000 0 0;", 2, 6);
        faultOf("l1 0;t 10000", 2, 7);
        faultOf("l1 0;t0 4096 0;", 2, 8);
        faultOf("l1 0;t0 0 21;", 2, 10);
        faultOf("l1 0;t0 0 21", 2, 10);
        faultOf("l1 0;t0 0 0", 1, 11);
        faultOf("l1 0;r0 0;", 2, 6);
        faultOf("l1 0;" + town + "r1 0;", 2, 14);
        faultOf("l1 0;" + town + "r0 1;", 2, 16);
        faultOf("l1 0;" + town + "r0 0;", 4, 16);
        faultOf("l1 0;" + town + "r0  00", 4, 17);
        faultOf("l1 0;l", 3, 5);
        faultOf("l1 0;" + town.repeat(8) + "t", 3, 69);
        faultOf("l1 0;" + town.repeat(8) + "t 0 t", 3, 69);
        faultOf("l1 0;" + town.repeat(2) + "r0 1;r0 1;", 4, 29);
        faultOf("l1 0;" + town.repeat(2) + "r0 1;r1 0;", 4, 29);
        faultOf("l1 0;" + town.repeat(2) + "r0 1;r1 2;", 2, 29);
        String roads = "r0 1;r0 2;r0 3;r0 4;r0 5;r0 6;r0 7;r1 2;r1 3;r1 4;r1 5;r1 6;";
        fine("l1 0;" + town.repeat(8) + roads, 8);
        faultOf("l1 0;" + town.repeat(8) + roads + "r1 7;", 3, 129);
        faultOf("l1 0;" + town.repeat(8) + roads + "x", 1, 129);
    }

    private static void fault() {
        JourneyRoads x = new JourneyRoads();
        due("4: fault() at first", x.fault(), NONE);
        Check.feed(x, "l1 0;?");
        due("4: fault() ahead of land()", x.fault(), NONE);
        x.land();
        due("4: fault()", x.fault(), 5);
        x.feed(32);
        due("4: fault() stays", x.fault(), 5);
        x.land();
        due("4: fault() is of the latest land()", x.fault(), NONE);
    }

    private static void told() {
        JourneyRoads x = land("l3 7;t20 4095 4;t60 4095 2;t70 0 0;r0 1;r1 2;");
        stays(x, 2);
        x.walk(1);
        x.stay();
        x.war(1, true);
        x.seal(0, 0);
        x.seal(0, 1);
        x.write(5);
        Check.feed(x, "ab c");
        int[] now = {3, 7, 3, 2, 4, 4, 1, 1, 10, 3, 2, 0, 2, 1, 5};
        for (int what = 0; what < now.length; what++) {
            due("5: told(" + what + ")", x.told(what), now[what]);
        }
        due("5: told(-1)", x.told(-1), OUTSIDE);
        due("5: told(15)", x.told(15), OUTSIDE);
        due("5: told(least)", x.told(LEAST), OUTSIDE);
        due("5: told(most)", x.told(MOST), OUTSIDE);
    }

    private static void town() {
        JourneyRoads x = land(Check.LAND);
        int[][] due = {{10, 4095, 3, 2, 1}, {60, 48, 5, 13, 0}, {90, 4032, 8, 10, 0}, {200, 63, 12, 22, 0}, {30, 4095, 20, 8, 1}};
        for (int t = 0; t < due.length; t++) {
            for (int what = 0; what < 5; what++) {
                due("6: town(" + t + ", " + what + ")", x.town(t, what), due[t][what]);
            }
        }
        x.war(0, true);
        due("6: a ROAD that is SHUT leads there, too", x.town(0, 3), 2);
        due("6: town(-1, 0)", x.town(-1, 0), UNKNOWN);
        due("6: town(5, 0)", x.town(5, 0), UNKNOWN);
        due("6: UNKNOWN ahead of OUTSIDE", x.town(5, 5), UNKNOWN);
        due("6: town(0, -1)", x.town(0, -1), OUTSIDE);
        due("6: town(4, 5)", x.town(4, 5), OUTSIDE);
        JourneyRoads y = land("l1 0;t49 0 0;t50 0 0;");
        due("6: 49 miles", y.town(0, 4), 1);
        due("6: 50 miles", y.town(1, 4), 0);
    }

    private static void road() {
        JourneyRoads x = land("l1 0;t50 0 0;t50 0 0;t50 0 0;r2 0;r0 1;");
        due("7: road(0, 0)", x.road(0, 0), 2);
        due("7: road(0, 1)", x.road(0, 1), 0);
        due("7: road(1, 0)", x.road(1, 0), 0);
        due("7: road(1, 1)", x.road(1, 1), 1);
        due("7: road(1, 2)", x.road(1, 2), 0);
        x.war(1, true);
        due("7: road(1, 2), SHUT", x.road(1, 2), 1);
        due("7: road(0, 2), not SHUT", x.road(0, 2), 0);
        due("7: road(2, 0)", x.road(2, 0), UNKNOWN);
        due("7: road(-1, 3)", x.road(-1, 3), UNKNOWN);
        due("7: road(0, 3)", x.road(0, 3), OUTSIDE);
        due("7: road(0, -1)", x.road(0, -1), OUTSIDE);
    }

    private static void stay() {
        JourneyRoads x = land("l4 10;t20 2049 7;t60 0 9;t70 4095 0;r0 1;r1 2;");
        due("8: no WORK in month 10", x.stay(), 0);
        due("8: no SEAL", x.told(9), 0);
        due("8: WORK in month 11", x.stay(), 7);
        due("8: a SEAL", x.told(9), 1);
        due("8: WORK in month 0", x.stay(), 7);
        due("8: none in month 1", x.stay(), 0);
        due("8: LEARNT", x.told(8), 14);
        due("8: STAYED", x.told(7), 4);
        due("8: STAYED R months", x.stay(), NOT);
        due("8: what is refused changes nothing", x.told(5), 4);
        x.walk(1);
        due("8: TOWN 1 has no WORK", x.stay(), 0);
        x.walk(2);
        due("8: WORK by which nothing is LEARNT", x.stay(), 0);
        due("8: gives a SEAL", x.told(9), 5);
    }

    private static void walk() {
        JourneyRoads x = land(Check.LAND);
        due("9: no ROAD", x.walk(2), NOT);
        due("9: to where he is", x.walk(0), NOT);
        due("9: walk(-1)", x.walk(-1), UNKNOWN);
        due("9: walk(5)", x.walk(5), UNKNOWN);
        x.war(0, true);
        due("9: a ROAD that is SHUT", x.walk(1), NOT);
        x.war(0, false);
        x.stay();
        due("9: walk(1)", x.walk(1), 2);
        due("9: where he is", x.told(6), 1);
        due("9: STAYED", x.told(7), 0);
        due("9: LEARNT", x.told(8), 3);
        due("9: no SEAL by WALKING", x.told(9), 1);
        due("9: a BANNED TOWN", x.walk(0), NOT);
        due("9: walk(3)", x.walk(3), 3);
        due("9: another BANNED TOWN", x.walk(4), NOT);
        due("9: what is refused changes nothing", x.told(5), 3);
        JourneyRoads y = land(PAIR);
        walks(y, 36);
        y.home();
        due("9: he is HOME", y.walk(1), NOT);
        due("9: UNKNOWN ahead of NOT", y.walk(2), UNKNOWN);
    }

    private static void war() {
        JourneyRoads x = land(Check.LAND);
        due("10: war(4, true)", x.war(4, true), 0);
        due("10: again", x.war(4, true), 1);
        due("10: war(0, true)", x.war(0, true), 0);
        due("10: SHUT", x.told(10), 17);
        due("10: war(4, false)", x.war(4, false), 1);
        due("10: again", x.war(4, false), 0);
        due("10: SHUT", x.told(10), 1);
        due("10: each can be undone", x.told(14), 5);
        due("10: war(5, true)", x.war(5, true), UNKNOWN);
        due("10: war(-1, false)", x.war(-1, false), UNKNOWN);
        due("10: no month", x.told(5), 0);
        JourneyRoads y = land(PAIR);
        walks(y, 36);
        y.home();
        due("10: when he is HOME", y.war(0, true), 0);
    }

    private static void home() {
        JourneyRoads x = land(PAIR);
        x.stay();
        walks(x, 34);
        due("11: behind 35 months", x.home(), NOT);
        x.walk(1);
        due("11: behind 36 months", x.home(), 1);
        due("11: he is HOME", x.told(11), 1);
        due("11: where he was", x.told(6), 1);
        due("11: again", x.home(), NOT);
        due("11: stay()", x.stay(), NOT);
        due("11: drift(1)", x.drift(1), NOT);
        due("11: drift(0)", x.drift(0), OUTSIDE);
        due("11: may(0)", x.may(0), NOT);
        due("11: may(2)", x.may(2), OUTSIDE);
        due("11: reach(0)", x.reach(0), NOT);
        due("11: reach(2)", x.reach(2), UNKNOWN);
        due("11: best(1, -1)", x.best(1, NONE), NOT);
        due("11: best(0, -1)", x.best(0, NONE), OUTSIDE);
        due("11: seals(0)", x.seals(0), NOT);
        due("11: seals(4)", x.seals(4), UNKNOWN);
        due("11: two(0)", x.two(0), NOT);
        due("11: two(2)", x.two(2), UNKNOWN);
        due("11: fits()", x.fits(), 1);
        due("11: undo()", x.undo(), 19);
        due("11: he is not HOME", x.told(11), 0);
        due("11: stay() again", x.stay(), 2);
    }

    private static void drift() {
        JourneyRoads x = land(Check.LAND);
        due("12: drift(0)", x.drift(0), OUTSIDE);
        due("12: drift(41)", x.drift(41), OUTSIDE);
        due("12: drift(least)", x.drift(LEAST), OUTSIDE);
        due("12: nothing was drawn", x.seed(0), 0);
        // From SEED 0 come 12345, 1406932606, 654583775, by 65536: 0, 21468, 9988.
        // 0 of 4 is 0: the ROAD 21468 of 5 = 3 is SHUT; 9988 of 2 is 0: he STAYS.
        due("12: drift(1)", x.drift(1), 3);
        due("12: ROAD 3 is SHUT", x.told(10), 8);
        due("12: three DRAWS", x.seed(0), 654583775);
        JourneyRoads y = land("l1 0;t20 4095 5;");
        due("12: without ROADS he STAYS or does nothing", y.drift(40), 5);
        due("12: nothing counts no month", y.told(5), 1);
        due("12: one undo() for all", y.told(14), 1);
        JourneyRoads z = land(PAIR);
        z.drift(40);
        due("12: drift changes THE SEED", z.seed(0) == 0 ? 1 : 0, 0);
    }

    private static void undo() {
        JourneyRoads x = land(Check.LAND);
        due("13: none", x.undo(), NOT);
        x.stay();
        x.war(2, true);
        x.walk(1);
        due("13: walk() undone", x.undo(), 2);
        due("13: where he is", x.told(6), 0);
        due("13: months", x.told(5), 1);
        due("13: STAYED", x.told(7), 1);
        due("13: war() undone", x.undo(), 1);
        due("13: SHUT", x.told(10), 0);
        due("13: stay() undone", x.undo(), 0);
        due("13: LEARNT", x.told(8), 0);
        due("13: SEALS", x.told(9), 0);
        due("13: none more", x.undo(), NOT);
        x.walk(3);
        due("13: what is refused cannot be undone", x.undo(), NOT);
        x.drift(30);
        int seed = x.seed(5);
        due("13: drift() undone", x.undo(), 0);
        due("13: months behind it", x.told(5), 0);
        due("13: THE SEED stays", x.seed(seed), 5);
        for (int i = 0; i < 25; i++) {
            x.war(0, i % 2 == 0);
        }
        due("13: 20 at most", x.told(14), 20);
        for (int i = 19; i >= 0; i--) {
            due("13: undo() to " + i, x.undo(), i);
        }
        due("13: the oldest are lost", x.told(10), 1);
        due("13: none more of 20", x.undo(), NOT);
        x.seal(0, 0);
        x.write(4);
        x.stay();
        x.undo();
        due("13: TOLD SEALS stay", x.told(12), 1);
        due("13: THE BOOK stays", x.told(13), 1);
    }

    private static void may() {
        JourneyRoads x = land(Check.LAND);
        due("14: may(0)", x.may(0), 2);
        due("14: may(1)", x.may(1), 1);
        stays(x, 2);
        due("14: may(1), STAYED R months", x.may(1), 0);
        x.walk(1);
        due("14: may(0) in TOWN 1", x.may(0), 12);
        x.war(1, true);
        due("14: may(0), a ROAD SHUT", x.may(0), 8);
        due("14: may(2)", x.may(2), OUTSIDE);
        due("14: may(-1)", x.may(-1), OUTSIDE);
        due("14: OUTSIDE ahead of NOT", new JourneyRoads().may(2), OUTSIDE);
    }

    private static void reach() {
        JourneyRoads x = land("l1 0;t0 0 0;t50 0 0;t50 0 0;t50 0 0;t50 0 0;t50 0 0;t50 0 0;t50 0 0;"
            + "r0 1;r1 2;r2 3;r3 4;r4 5;r5 6;r6 7;");
        for (int t = 0; t < 8; t++) {
            due("15: reach(" + t + ")", x.reach(t), t);
        }
        stays(x, 1);
        due("15: reach(0) when he may not STAY", x.reach(0), 0);
        due("15: reach(8)", x.reach(8), UNKNOWN);
        due("15: reach(-1)", x.reach(-1), UNKNOWN);
        x.walk(1);
        due("15: a BANNED TOWN", x.reach(0), NONE);
        due("15: reach(7)", x.reach(7), 6);
        x.war(3, true);
        due("15: a ROAD SHUT", x.reach(7), NONE);
        due("15: ahead of it", x.reach(3), 2);
        due("15: nothing changes", x.told(5), 2);
        JourneyRoads y = land(Check.LAND);
        due("15: not through BANNED TOWNS", y.reach(4), NONE);
    }

    private static void best() {
        JourneyRoads x = land(PAIR);
        due("16: best(1, -1)", x.best(1, NONE), 1);
        due("16: best(2, -1)", x.best(2, NONE), 2);
        due("16: WALKING first", x.best(2, 0), 1);
        due("16: then STAYING", x.best(2, 1), 1);
        due("16: best(3, -1)", x.best(3, NONE), 3);
        due("16: best(3, 0)", x.best(3, 0), 0);
        due("16: best(3, 1)", x.best(3, 1), 1);
        due("16: best(3, 2)", x.best(3, 2), 1);
        due("16: best(36, -1)", x.best(36, NONE), 27);
        x.stay();
        due("16: from now, best(1, -1)", x.best(1, NONE), 0);
        due("16: from now, best(1, 0)", x.best(1, 0), 1);
        x.war(0, true);
        due("16: he cannot go on", x.best(1, NONE), NONE);
        due("16: nor tell a TOWN", x.best(1, 0), NONE);
        due("16: best(0, -1)", x.best(0, NONE), OUTSIDE);
        due("16: best(37, -1)", x.best(37, NONE), OUTSIDE);
        due("16: best(2, 2)", x.best(2, 2), OUTSIDE);
        due("16: best(2, -2)", x.best(2, -2), OUTSIDE);
        due("16: OUTSIDE ahead of NOT", new JourneyRoads().best(1, 1), OUTSIDE);
        JourneyRoads ties = land("l2 0;t50 0 0;t50 0 0;t50 0 0;r0 2;r0 1;r1 2;");
        due("16: of like ones to STAY", ties.best(3, 0), 0);
        due("16: and STAY again", ties.best(3, 1), 0);
        due("16: then the lesser TOWN", ties.best(3, 2), 1);
        due("16: nothing LEARNT", ties.best(36, NONE), 0);
        due("16: nothing changes", ties.told(5), 0);
    }

    private static void seals() {
        JourneyRoads x = land(PAIR);
        due("17: seals(0)", x.seals(0), 0);
        due("17: seals(1)", x.seals(1), 1);
        due("17: seals(2)", x.seals(2), 2);
        due("17: seals(3)", x.seals(3), 3);
        due("17: seals(4)", x.seals(4), UNKNOWN);
        due("17: seals(-1)", x.seals(-1), UNKNOWN);
        x.stay();
        due("17: those he has count", x.seals(1), 0);
        due("17: seals(3) from now", x.seals(3), 2);
        x.war(0, true);
        due("17: no way", x.seals(2), NONE);
        due("17: what he has, without a way", x.seals(1), 0);
        JourneyRoads all = land("l1 0;t50 4095 0;t50 4095 0;t50 4095 0;t50 4095 0;t50 4095 0;t50 4095 0;t50 4095 0;t50 4095 0;"
            + "r0 1;r1 2;r2 3;r3 4;r4 5;r5 6;r6 7;");
        due("17: all of eight", all.seals(255), 15);
        due("17: the last two", all.seals(192), 9);
        due("17: the last", all.seals(128), 8);
        due("17: first and last", all.seals(129), 9);
        // Each of six TOWNS has WORK in the last month of the year alone, so each SEAL takes a year.
        String year = "t50 2048 0;".repeat(6) + "r0 1;r1 2;r2 3;r3 4;r4 5;";
        due("17: behind 60 months", land("l1 0;" + year).seals(31), 60);
        due("17: not behind 61", land("l1 11;" + year).seals(63), NONE);
        due("17: beyond 60", land("l1 0;" + year).seals(63), NONE);
        due("17: coming back for WORK", land("l1 1;" + year).seals(1), 11);
        due("17: waiting in vain", land("l4 1;t50 2048 0;").seals(1), NONE);
        due("17: waiting for WORK", land("l4 8;t50 2048 0;").seals(1), 4);
    }

    private static void two() {
        JourneyRoads x = land(Check.LAND);
        int[] due = {0, 1, 1, 1, 2};
        for (int t = 0; t < due.length; t++) {
            due("18: two(" + t + ")", x.two(t), due[t]);
        }
        due("18: two(5)", x.two(5), UNKNOWN);
        due("18: two(-1)", x.two(-1), UNKNOWN);
        JourneyRoads y = land(PAIR);
        due("18: one STAYS, one comes", y.two(1), 1);
        y.stay();
        due("18: he must WALK, the other STAYS", y.two(1), 1);
        JourneyRoads line = land("l1 0;" + "t50 0 0;".repeat(8) + "r0 1;r1 2;r2 3;r3 4;r4 5;r5 6;r6 7;");
        due("18: both WALK", line.two(7), 4);
        line.stay();
        due("18: both WALK, he first", line.two(7), 4);
        line.war(3, true);
        due("18: a ROAD SHUT", line.two(7), NONE);
        due("18: on this side of it", line.two(3), 2);
        JourneyRoads stuck = land("l2 0;t50 0 0;t0 0 0;r0 1;");
        stays(stuck, 2);
        due("18: he cannot go on, the other comes", stuck.two(1), NONE);
        JourneyRoads waits = land("l2 0;t50 0 0;t0 0 0;r0 1;");
        due("18: he waits, the other comes", waits.two(1), 1);
    }

    private static void idle() {
        due("19: WORK in BANNED TOWNS is none", land("l1 0;t49 4095 1;").idle(), 4095);
        due("19: WORK at 50 miles", land("l1 7;t50 5 1;t60 8 0;").idle(), 4095 - 13);
        due("19: all months", land(Check.LAND).idle(), 0);
    }

    private static void stranded() {
        JourneyRoads x = land("l1 0;t0 0 0;t50 0 0;t50 0 0;t50 0 0;r0 1;r1 2;");
        due("20: no ROAD", x.stranded(), 8);
        x.war(1, true);
        due("20: a ROAD SHUT, one to a BANNED TOWN", x.stranded(), 14);
        x.war(1, false);
        due("20: opened", x.stranded(), 8);
    }

    private static void snow() {
        JourneyRoads x = new JourneyRoads();
        due("21: no pass", x.snow(0, 100), 1000000000);
        due("21: none of a hundred", x.snow(60, 0), 1000000000);
        due("21: all of a hundred", x.snow(1, 100), 0);
        due("21: one pass", x.snow(1, 1), 990000000);
        due("21: cut each", x.snow(5, 99), 0);
        due("21: four of 99", x.snow(4, 99), 10);
        due("21: six of 33, cut", x.snow(6, 33), 90458381);
        due("21: snow(-1, 0)", x.snow(-1, 0), OUTSIDE);
        due("21: snow(61, 0)", x.snow(61, 0), OUTSIDE);
        due("21: snow(0, -1)", x.snow(0, -1), OUTSIDE);
        due("21: snow(0, 101)", x.snow(0, 101), OUTSIDE);
    }

    private static void seal() {
        JourneyRoads x = land(PAIR);
        due("22: seal(2, 0)", x.seal(2, 0), UNKNOWN);
        due("22: seal(-1, 0)", x.seal(-1, 0), UNKNOWN);
        due("22: UNKNOWN ahead of OUTSIDE", x.seal(2, 48), UNKNOWN);
        due("22: seal(0, -1)", x.seal(0, -1), OUTSIDE);
        due("22: seal(0, 48)", x.seal(0, 48), OUTSIDE);
        due("22: seal(0, 47)", x.seal(0, 47), 1);
        for (int i = 2; i <= 8; i++) {
            due("22: seal " + i, x.seal(0, 0), i);
        }
        due("22: a ninth", x.seal(0, 0), FULL);
        due("22: OUTSIDE ahead of FULL", x.seal(0, 48), OUTSIDE);
        due("22: UNKNOWN ahead of FULL", x.seal(2, 0), UNKNOWN);
        due("22: told(12)", x.told(12), 8);
    }

    private static void fits() {
        JourneyRoads x = land(PAIR);
        due("23: nothing told", x.fits(), 1);
        x.war(0, true);
        due("23: no ROAD is SHUT in WAYS", x.fits(), 1);
        x.seal(0, 0);
        x.seal(0, 0);
        due("23: told twice", x.fits(), 1);
        x.seal(1, 2);
        due("23: a month to WALK between", x.fits(), 1);
        x.seal(0, 47);
        due("23: the last month", x.fits(), 1);
        x.seal(1, 1);
        due("23: no month to WALK", x.fits(), 0);
        due("23: one cannot go on for 48 months", land("l4 0;t50 0 0;").fits(), 0);
        JourneyRoads limit = land("l2 0;t50 4095 0;t60 0 0;r0 1;");
        limit.seal(0, 0);
        limit.seal(0, 1);
        due("23: R months", limit.fits(), 1);
        limit.seal(0, 2);
        due("23: R months and one", limit.fits(), 0);
        limit.tear();
        limit.seal(1, 1);
        due("23: no WORK", limit.fits(), 0);
        JourneyRoads months = land("l1 11;t50 1 0;t60 0 0;r0 1;");
        months.seal(0, 1);
        due("23: month 1 is month 0 of the year, but he STAYED there, or was away", months.fits(), 0);
        months.tear();
        months.seal(0, 13);
        due("23: a year on", months.fits(), 1);
        months.tear();
        months.seal(0, 12);
        due("23: a month without WORK", months.fits(), 0);
        JourneyRoads banned = land("l1 0;t0 4095 0;t60 4095 0;t70 0 0;r0 1;r1 2;");
        banned.seal(0, 0);
        due("23: he begins in a BANNED TOWN", banned.fits(), 1);
        banned.seal(0, 5);
        due("23: and does not come back", banned.fits(), 0);
    }

    private static void bought() {
        JourneyRoads x = land(PAIR);
        due("24: nothing told", x.bought(), 0);
        x.seal(0, 0);
        x.seal(1, 2);
        due("24: all fit", x.bought(), 0);
        x.seal(0, 3);
        due("24: either of two", x.bought(), 6);
        x.seal(0, 2);
        due("24: no one alone", x.bought(), 0);
        JourneyRoads between = land("l3 0;t50 4095 1;t60 4095 2;r0 1;");
        between.seal(0, 4);
        between.seal(1, 5);
        between.seal(0, 6);
        due("24: the one that hinders all others", between.bought(), 2);
        JourneyRoads stuck = land("l4 0;t50 4095 0;");
        stuck.seal(0, 0);
        due("24: no WAY at all", stuck.bought(), 0);
        JourneyRoads last = land(PAIR);
        for (int i = 0; i < 7; i++) {
            last.seal(0, 0);
        }
        last.seal(1, 0);
        due("24: the eighth", last.bought(), 128);
    }

    private static void was() {
        JourneyRoads x = land(PAIR);
        due("25: was(-1)", x.was(-1), OUTSIDE);
        due("25: was(49)", x.was(49), OUTSIDE);
        due("25: at first", x.was(0), 1);
        due("25: at the begin of month 1", x.was(1), 3);
        due("25: at the end", x.was(48), 3);
        x.seal(1, 47);
        due("25: at the end, by a SEAL", x.was(48), 2);
        due("25: a month ahead of it", x.was(47), 2);
        due("25: he came there from TOWN 0", x.was(46), 1);
        due("25: two months ahead of that", x.was(45), 3);
        x.seal(0, 0);
        due("25: behind a SEAL", x.was(1), 1);
        due("25: then he WALKS", x.was(2), 2);
        x.seal(1, 0);
        due("25: no WAY", x.was(0), 0);
        x.tear();
        x.seal(1, 46);
        due("25: at the end he must have WALKED", x.was(48), 1);
        JourneyRoads end = land("l1 0;t0 4095 0;t50 0 0;t60 0 0;r0 1;r1 2;");
        due("25: only from where he can go on", end.was(1), 3);
        due("25: the BANNED begin is left for good", end.was(2), 6);
    }

    private static void ask() {
        JourneyRoads x = land(PAIR);
        due("26: of like ones the least", x.ask(), 1);
        x.seal(0, 0);
        due("26: behind a SEAL", x.ask(), 3);
        x.seal(0, 1);
        due("26: no WAY", x.ask(), NONE);
        JourneyRoads most = land("l1 0;t50 4095 0;t50 0 0;t50 0 0;t50 0 0;r0 1;r1 2;r2 3;r0 3;");
        due("26: in most TOWNS", most.ask(), 2);
        JourneyRoads end = land("l1 0;t50 0 0;t50 4095 0;r0 1;");
        int[] months = {1, 4, 7, 10, 13, 16, 19, 22};
        for (int month : months) {
            end.seal(1, month);
        }
        due("26: month by month between SEALS", end.ask(), 25);
        // TOWNS 0 to 3 on a line, four more beyond 3, which SEALS in TOWN 0 keep out of his way until the end.
        JourneyRoads star = land("l1 0;" + "t50 4095 0;".repeat(8) + "r0 1;r1 2;r2 3;r3 4;r3 5;r3 6;r3 7;");
        for (int month = 0; month <= 42; month += 7) {
            star.seal(0, month);
        }
        star.seal(3, 46);
        due("26: at the end", star.ask(), 48);
        JourneyRoads alone = land("l4 0;t50 0 0;");
        due("26: no WAY in one TOWN", alone.ask(), NONE);
    }

    private static void write() {
        JourneyRoads x = new JourneyRoads();
        due("27: write(-1)", x.write(-1), OUTSIDE);
        due("27: write(10000)", x.write(10000), OUTSIDE);
        due("27: write(9999)", x.write(9999), 1);
        for (int i = 2; i <= 15; i++) {
            due("27: entry " + i, x.write(0), i);
        }
        due("27: a sixteenth", x.write(0), FULL);
        due("27: OUTSIDE ahead of FULL", x.write(10000), OUTSIDE);
        due("27: told(13)", x.told(13), 15);
    }

    private static void tear() {
        JourneyRoads x = land(PAIR);
        due("28: nothing", x.tear(), 0);
        x.seal(0, 0);
        x.seal(1, 0);
        x.write(7);
        due("28: both", x.tear(), 3);
        due("28: no TOLD SEALS", x.told(12), 0);
        due("28: THE BOOK is empty", x.told(13), 0);
        due("28: all fits", x.fits(), 1);
        due("28: nothing is WRONG", x.judge(), NONE);
        due("28: again", x.tear(), 0);
    }

    private static void judge() {
        JourneyRoads x = land(PAIR);
        due("29: an empty BOOK", x.judge(), NONE);
        x.write(0);
        due("29: as it is", x.judge(), NONE);
        x.write(1);
        x.write(2);
        due("29: the first that is otherwise", x.judge(), 1);
        x.stay();
        due("29: now", x.judge(), 0);
        x.undo();
        due("29: undone", x.judge(), 1);
        x.tear();
        for (int i = 0; i < 15; i++) {
            x.write(i < 14 ? 0 : 5);
        }
        due("29: the last", x.judge(), 14);
    }

    private static void seed() {
        JourneyRoads x = new JourneyRoads();
        due("30: 0 at first", x.seed(MOST), 0);
        due("30: what it was", x.seed(-1), OUTSIDE);
        due("30: seed(least)", x.seed(LEAST), OUTSIDE);
        due("30: what is refused changes nothing", x.seed(1), MOST);
        due("30: seed(0)", x.seed(0), 1);
        // One TOWN without ROADS: two DRAWS a month, 12345 first, then 1406932606.
        JourneyRoads y = land("l1 0;t50 0 0;");
        y.drift(1);
        due("30: two DRAWS from 0", y.seed(0), 1406932606);
        // From 2147483647 a DRAW is (2147483647 * 1103515245 + 12345) left over by 2 to the 31.
        y.seed(MOST);
        y.drift(1);
        long first = (2147483647L * 1103515245L + 12345L) % 2147483648L;
        due("30: two DRAWS from the most", y.seed(0), (int) ((first * 1103515245L + 12345L) % 2147483648L));
    }

    private static void keep() {
        JourneyRoads x = land(PAIR);
        due("31: keep(-1)", x.keep(-1), UNKNOWN);
        due("31: keep(2)", x.keep(2), UNKNOWN);
        x.stay();
        due("31: keep(2) changes nothing", x.keep(2), UNKNOWN);
        due("31: can be undone", x.told(14), 1);
        due("31: keep(0)", x.keep(0), 1);
        due("31: nothing can be undone", x.told(14), 0);
        due("31: undo()", x.undo(), NOT);
        x.walk(1);
        x.stay();
        due("31: keep(1)", x.keep(1), 1);
        x.walk(0);
        due("31: IMAGE 0 is its own", x.goBack(0) + x.told(8), 2);
        due("31: IMAGE 1 is its own", x.goBack(1) + x.told(8), 4);
        x.walk(0);
        x.keep(0);
        x.goBack(1);
        x.goBack(0);
        due("31: kept again", x.told(5), 4);
    }

    private static void goBack() {
        JourneyRoads x = land(PAIR);
        due("32: goBack(-1)", x.goBack(-1), UNKNOWN);
        due("32: goBack(2)", x.goBack(2), UNKNOWN);
        due("32: not kept", x.goBack(0), NOT);
        walks(x, 35);
        x.stay();
        x.war(0, true);
        x.home();
        x.seed(9);
        x.keep(1);
        due("32: the other is not kept", x.goBack(0), NOT);
        Check.feed(x, "l1 0;");
        x.feed('?');
        x.land();
        due("32: a FAULT leaves IMAGES", x.goBack(1), 1);
        x.seed(4);
        x.war(0, false);
        due("32: goBack(1)", x.goBack(1), 1);
        int[] kept = {36, 1, 1, 2, 2, 1, 1};
        for (int what = 5; what <= 11; what++) {
            due("32: told(" + what + ")", x.told(what), kept[what - 5]);
        }
        due("32: THE SEED", x.seed(9), 9);
        due("32: nothing can be undone", x.undo(), NOT);
        x.seal(0, 0);
        x.write(1);
        x.goBack(1);
        due("32: TOLD SEALS stay", x.told(12), 1);
        due("32: THE BOOK stays", x.told(13), 1);
    }
}
