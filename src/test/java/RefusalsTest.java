/** Terms: every refusal that a promise names, at its bounds, in its order; what is refused, and what is TRIED, changes nothing. */
public final class RefusalsTest {
    private static final int NONE = Check.NONE, UNKNOWN = Check.UNKNOWN, OUTSIDE = Check.OUTSIDE, NOT = Check.NOT, FULL = Check.FULL;
    private static final int LEAST = Check.LEAST, MOST = Check.MOST;
    private static final Twin.Calls NEW = x -> { };
    private static final Twin.Calls NO_TOWNS = x -> Check.landOn(x, "l1 0;");
    private static final Twin.Calls FRESH = x -> Check.landOn(x, Check.LAND);
    private static final Twin.Calls RICH = RefusalsTest::rich;
    private static final Twin.Calls AT_HOME = RefusalsTest::atHome;
    private static final Twin.Calls CRAMMED = RefusalsTest::crammed;
    private static final Twin.Calls LATE = x -> {
        Brink.at9000(x, 8, 0);
        x.stay();
    };

    public static void main(String[] args) {
        constants();
        theLand();
        stay();
        walk();
        warAndHome();
        drift();
        undo();
        may();
        reach();
        best();
        seals();
        two();
        snow();
        seal();
        was();
        book();
        draws();
        images();
        neverRefused();
        triedChangesNothing();
        Check.end("RefusalsTest");
    }

    /** TOWN 1, one month STAYED, the ROAD 3 SHUT; undone, IMAGES, TOLD SEALS, THE BOOK and half a text are there. */
    private static void rich(JourneyRoads x) {
        Check.landOn(x, Check.LAND);
        x.seed(7);
        x.stay();
        x.keep(0);
        x.stay();
        x.walk(1);
        x.war(3, true);
        x.stay();
        x.seal(0, 1);
        x.seal(2, 3);
        x.write(6);
        x.write(9);
        Check.feed(x, "l3 2;t");
    }

    /** Behind 36 months in TOWN 0. */
    private static void atHome(JourneyRoads x) {
        Check.landOn(x, Check.PAIR);
        Check.walks(x, 36);
        x.keep(1);
        x.war(0, true);
        x.home();
        x.seal(1, 1);
        x.write(0);
    }

    /** THE TEXT, TOLD SEALS, THE BOOK are full. */
    private static void crammed(JourneyRoads x) {
        Check.landOn(x, Check.PAIR);
        Check.feed(x, "l2 3;" + " ".repeat(235));
        for (int i = 0; i < 8; i++) {
            x.seal(i % 2, i * 6);
        }
        for (int i = 0; i < 15; i++) {
            x.write(i / 14);
        }
    }

    private static void refused(String name, Twin.Calls ahead, Twin.Call call, int due) {
        Twin.refused(name, ahead, call, due);
    }

    private static void constants() {
        Check.sentence("Terms", "They are far below all that is counted: -1000000001 and on.");
        Check.due("UNKNOWN", JourneyRoads.UNKNOWN, -1000000001);
        Check.due("OUTSIDE", JourneyRoads.OUTSIDE, -1000000002);
        Check.due("NOT", JourneyRoads.NOT, -1000000003);
        Check.due("FULL", JourneyRoads.FULL, -1000000004);
        Check.sentence("Terms", "NONE is -1.");
        Check.due("NONE", JourneyRoads.NONE, -1);
    }

    private static void theLand() {
        Check.sentence("2 feed", "OUTSIDE, FULL (240).");
        for (int letter : new int[] {-1, 256, LEAST, MOST}) {
            refused("feed(" + letter + ")", RICH, x -> x.feed(letter), OUTSIDE);
            refused("feed(" + letter + ") behind 240", CRAMMED, x -> x.feed(letter), OUTSIDE);
        }
        refused("feed(0) behind 240", CRAMMED, x -> x.feed(0), FULL);
        refused("feed(255) behind 240", CRAMMED, x -> x.feed(255), FULL);
        Check.sentence("5 told", "14 how many can be undone. OUTSIDE.");
        for (int what : new int[] {-1, 15, LEAST, MOST}) {
            refused("told(" + what + ")", RICH, x -> x.told(what), OUTSIDE);
            refused("told(" + what + ") of a new object", NEW, x -> x.told(what), OUTSIDE);
        }
        Check.sentence("6 town", "4 1 it is BANNED, 0 not. UNKNOWN, OUTSIDE.");
        for (int t : new int[] {-1, 5, 8, LEAST, MOST}) {
            refused("town(" + t + ", 0)", RICH, x -> x.town(t, 0), UNKNOWN);
            refused("town(" + t + ", 5)", RICH, x -> x.town(t, 5), UNKNOWN);
        }
        for (int what : new int[] {-1, 5, LEAST, MOST}) {
            refused("town(0, " + what + ")", RICH, x -> x.town(0, what), OUTSIDE);
            refused("town(4, " + what + ")", RICH, x -> x.town(4, what), OUTSIDE);
            refused("town(0, " + what + ") without TOWNS", NO_TOWNS, x -> x.town(0, what), UNKNOWN);
        }
        Check.sentence("7 road", "2 1 it is SHUT, 0 not. UNKNOWN, OUTSIDE.");
        for (int r : new int[] {-1, 5, 12, 32, LEAST, MOST}) {
            refused("road(" + r + ", 2)", RICH, x -> x.road(r, 2), UNKNOWN);
            refused("road(" + r + ", 3)", RICH, x -> x.road(r, 3), UNKNOWN);
        }
        for (int what : new int[] {-1, 3, LEAST, MOST}) {
            refused("road(0, " + what + ")", RICH, x -> x.road(0, what), OUTSIDE);
            refused("road(4, " + what + ")", RICH, x -> x.road(4, what), OUTSIDE);
            refused("road(0, " + what + ") without ROADS", NEW, x -> x.road(0, what), UNKNOWN);
        }
    }

    private static void stay() {
        Check.sentence("8 stay", "NOT: no TOWNS, he is HOME, has STAYED R months; FULL: months are above 9000.");
        refused("without a LAND", NEW, x -> x.stay(), NOT);
        refused("without TOWNS", NO_TOWNS, x -> x.stay(), NOT);
        refused("HOME", AT_HOME, x -> x.stay(), NOT);
        refused("STAYED 2 of 2", x -> {
            rich(x);
            x.stay();
        }, x -> x.stay(), NOT);
        refused("months 9001", LATE, x -> x.stay(), FULL);
        refused("months 9001, HOME", x -> {
            LATE.on(x);
            x.home();
        }, x -> x.stay(), NOT);
        refused("months 9001, STAYED 4 of 4", x -> {
            Brink.at9000(x, 5, 3);
            x.stay();
        }, x -> x.stay(), NOT);
    }

    private static void walk() {
        Check.sentence("9 walk", "UNKNOWN, NOT: he is HOME, no ROAD that is not SHUT, it is BANNED; FULL: months are above 9000.");
        for (int t : new int[] {-1, 5, 8, 32, 33, LEAST, MOST}) {
            refused("walk(" + t + ")", RICH, x -> x.walk(t), UNKNOWN);
            refused("walk(" + t + "), HOME", AT_HOME, x -> x.walk(t), UNKNOWN);
            refused("walk(" + t + "), months 9001", LATE, x -> x.walk(t), UNKNOWN);
        }
        refused("walk(0) without a LAND", NEW, x -> x.walk(0), UNKNOWN);
        refused("walk(0) without TOWNS", NO_TOWNS, x -> x.walk(0), UNKNOWN);
        refused("HOME", x -> {
            atHome(x);
            x.war(0, false);
        }, x -> x.walk(1), NOT);
        refused("no ROAD", RICH, x -> x.walk(4), NOT);
        refused("where he is", RICH, x -> x.walk(1), NOT);
        refused("a ROAD that is SHUT", RICH, x -> x.walk(3), NOT);
        refused("BANNED", RICH, x -> x.walk(0), NOT);
        refused("months 9001", LATE, x -> x.walk(1), FULL);
        refused("months 9001, HOME", x -> {
            LATE.on(x);
            x.home();
        }, x -> x.walk(1), NOT);
        refused("months 9001, a ROAD that is SHUT", LATE, x -> x.walk(2), NOT);
        refused("months 9001, where he is", LATE, x -> x.walk(0), NOT);
    }

    private static void warAndHome() {
        Check.sentence("10 war", "A ROAD is SHUT (is), or opened: 1 it was SHUT, 0 not. UNKNOWN.");
        for (int r : new int[] {-1, 5, 12, 32, 35, LEAST, MOST}) {
            refused("war(" + r + ", true)", RICH, x -> x.war(r, true), UNKNOWN);
            refused("war(" + r + ", false)", RICH, x -> x.war(r, false), UNKNOWN);
        }
        refused("war(0, true) without ROADS", NEW, x -> x.war(0, true), UNKNOWN);
        refused("war(1, true) when he is HOME", AT_HOME, x -> x.war(1, true), UNKNOWN);
        Check.sentence("11 home", "NOT: no TOWNS, he is, months are below 36.");
        refused("without a LAND", NEW, x -> x.home(), NOT);
        refused("without TOWNS", NO_TOWNS, x -> x.home(), NOT);
        refused("HOME", AT_HOME, x -> x.home(), NOT);
        refused("behind no month", FRESH, x -> x.home(), NOT);
        refused("behind 35 months", x -> {
            Check.landOn(x, Check.PAIR);
            Check.walks(x, 35);
        }, x -> x.home(), NOT);
    }

    private static void drift() {
        Check.sentence("12 drift", "OUTSIDE, NOT: no TOWNS, he is HOME; FULL: months are above 9000.");
        for (int n : new int[] {0, -1, 41, LEAST, MOST}) {
            refused("drift(" + n + ")", RICH, x -> x.drift(n), OUTSIDE);
            refused("drift(" + n + ") without a LAND", NEW, x -> x.drift(n), OUTSIDE);
            refused("drift(" + n + "), HOME", AT_HOME, x -> x.drift(n), OUTSIDE);
            refused("drift(" + n + "), months 9001", LATE, x -> x.drift(n), OUTSIDE);
        }
        for (int n : new int[] {1, 40}) {
            refused("drift(" + n + ") without a LAND", NEW, x -> x.drift(n), NOT);
            refused("drift(" + n + ") without TOWNS", NO_TOWNS, x -> x.drift(n), NOT);
            refused("drift(" + n + "), HOME", AT_HOME, x -> x.drift(n), NOT);
            refused("drift(" + n + "), months 9001", LATE, x -> x.drift(n), FULL);
        }
        refused("months 9001, HOME", x -> {
            LATE.on(x);
            x.home();
        }, x -> x.drift(1), NOT);
    }

    private static void undo() {
        Check.sentence("13 undo", "NOT: none.");
        refused("without a LAND", NEW, x -> x.undo(), NOT);
        refused("nothing was done", FRESH, x -> x.undo(), NOT);
        refused("all is undone", x -> {
            rich(x);
            for (int i = 0; i < 4; i++) {
                x.undo();
            }
        }, x -> x.undo(), NOT);
    }

    private static void may() {
        Check.sentence("14 may", "OUTSIDE, NOT: no TOWNS, he is HOME.");
        for (int what : new int[] {-1, 2, LEAST, MOST}) {
            refused("may(" + what + ")", RICH, x -> x.may(what), OUTSIDE);
            refused("may(" + what + ") without a LAND", NEW, x -> x.may(what), OUTSIDE);
            refused("may(" + what + "), HOME", AT_HOME, x -> x.may(what), OUTSIDE);
        }
        for (int what = 0; what < 2; what++) {
            int asked = what;
            refused("may(" + what + ") without a LAND", NEW, x -> x.may(asked), NOT);
            refused("may(" + what + ") without TOWNS", NO_TOWNS, x -> x.may(asked), NOT);
            refused("may(" + what + "), HOME", AT_HOME, x -> x.may(asked), NOT);
        }
    }

    private static void reach() {
        Check.sentence("15 reach", "REACH; NONE. UNKNOWN, NOT: he is HOME.");
        for (int t : new int[] {-1, 5, 8, 32, LEAST, MOST}) {
            refused("reach(" + t + ")", RICH, x -> x.reach(t), UNKNOWN);
            refused("reach(" + t + "), HOME", AT_HOME, x -> x.reach(t), UNKNOWN);
        }
        refused("reach(0) without TOWNS", NO_TOWNS, x -> x.reach(0), UNKNOWN);
        refused("reach(0), HOME", AT_HOME, x -> x.reach(0), NOT);
        refused("reach(1), HOME", AT_HOME, x -> x.reach(1), NOT);
    }

    private static void best() {
        Check.sentence("16 best", "i = NONE how much, else a TOWN; NONE. OUTSIDE, NOT: no TOWNS, he is HOME.");
        for (int n : new int[] {0, -1, 37, LEAST, MOST}) {
            refused("best(" + n + ", -1)", RICH, x -> x.best(n, NONE), OUTSIDE);
            refused("best(" + n + ", 0)", RICH, x -> x.best(n, 0), OUTSIDE);
            refused("best(" + n + ", -1) without a LAND", NEW, x -> x.best(n, NONE), OUTSIDE);
            refused("best(" + n + ", -1), HOME", AT_HOME, x -> x.best(n, NONE), OUTSIDE);
        }
        for (int i : new int[] {-2, 36, LEAST, MOST}) {
            refused("best(36, " + i + ")", RICH, x -> x.best(36, i), OUTSIDE);
            refused("best(1, " + i + ")", RICH, x -> x.best(1, i), OUTSIDE);
            refused("best(1, " + i + ") without a LAND", NEW, x -> x.best(1, i), OUTSIDE);
            refused("best(1, " + i + "), HOME", AT_HOME, x -> x.best(1, i), OUTSIDE);
        }
        refused("best(1, 1)", RICH, x -> x.best(1, 1), OUTSIDE);
        refused("best(35, 35)", RICH, x -> x.best(35, 35), OUTSIDE);
        for (int i : new int[] {NONE, 0, 35}) {
            refused("best(36, " + i + ") without a LAND", NEW, x -> x.best(36, i), NOT);
            refused("best(36, " + i + ") without TOWNS", NO_TOWNS, x -> x.best(36, i), NOT);
            refused("best(36, " + i + "), HOME", AT_HOME, x -> x.best(36, i), NOT);
        }
    }

    private static void seals() {
        Check.sentence("17 seals", "SEALS; NONE. UNKNOWN, NOT: no TOWNS, he is HOME.");
        for (int set : new int[] {32, 33, 63, 256, -1, -32, LEAST, MOST}) {
            refused("seals(" + set + ")", RICH, x -> x.seals(set), UNKNOWN);
            refused("seals(" + set + "), HOME", AT_HOME, x -> x.seals(set), UNKNOWN);
            refused("seals(" + set + ") without a LAND", NEW, x -> x.seals(set), UNKNOWN);
        }
        refused("seals(1) without TOWNS", NO_TOWNS, x -> x.seals(1), UNKNOWN);
        refused("seals(4), HOME", AT_HOME, x -> x.seals(4), UNKNOWN);
        refused("seals(256) of eight TOWNS", x -> Check.landOn(x, "l1 0;" + "t50 1 1;".repeat(8)), x -> x.seals(256), UNKNOWN);
        refused("seals(0) without a LAND", NEW, x -> x.seals(0), NOT);
        refused("seals(0) without TOWNS", NO_TOWNS, x -> x.seals(0), NOT);
        refused("seals(0), HOME", AT_HOME, x -> x.seals(0), NOT);
        refused("seals(3), HOME", AT_HOME, x -> x.seals(3), NOT);
    }

    private static void two() {
        Check.sentence("18 two", "TWO; NONE. UNKNOWN, NOT: he is HOME.");
        for (int t : new int[] {-1, 5, 8, 32, LEAST, MOST}) {
            refused("two(" + t + ")", RICH, x -> x.two(t), UNKNOWN);
            refused("two(" + t + "), HOME", AT_HOME, x -> x.two(t), UNKNOWN);
        }
        refused("two(0) without TOWNS", NO_TOWNS, x -> x.two(0), UNKNOWN);
        refused("two(0), HOME", AT_HOME, x -> x.two(0), NOT);
        refused("two(1), HOME", AT_HOME, x -> x.two(1), NOT);
    }

    private static void snow() {
        Check.sentence("21 snow", "SNOW (q 0 .. 100). OUTSIDE.");
        for (int n : new int[] {-1, 61, LEAST, MOST}) {
            refused("snow(" + n + ", 0)", RICH, x -> x.snow(n, 0), OUTSIDE);
            refused("snow(" + n + ", 101)", NEW, x -> x.snow(n, 101), OUTSIDE);
        }
        for (int q : new int[] {-1, 101, LEAST, MOST}) {
            refused("snow(0, " + q + ")", RICH, x -> x.snow(0, q), OUTSIDE);
            refused("snow(60, " + q + ")", NEW, x -> x.snow(60, q), OUTSIDE);
        }
    }

    private static void seal() {
        Check.sentence("22 seal", "A TOLD SEAL: how many. UNKNOWN, OUTSIDE, FULL (8).");
        for (int t : new int[] {-1, 5, 8, LEAST, MOST}) {
            refused("seal(" + t + ", 0)", RICH, x -> x.seal(t, 0), UNKNOWN);
            refused("seal(" + t + ", 48)", RICH, x -> x.seal(t, 48), UNKNOWN);
            refused("seal(" + t + ", 0), a ninth", CRAMMED, x -> x.seal(t, 0), UNKNOWN);
            refused("seal(" + t + ", -1), a ninth", CRAMMED, x -> x.seal(t, -1), UNKNOWN);
        }
        for (int month : new int[] {-1, 48, LEAST, MOST}) {
            refused("seal(0, " + month + ")", RICH, x -> x.seal(0, month), OUTSIDE);
            refused("seal(0, " + month + "), a ninth", CRAMMED, x -> x.seal(0, month), OUTSIDE);
            refused("seal(0, " + month + ") without TOWNS", NO_TOWNS, x -> x.seal(0, month), UNKNOWN);
        }
        refused("seal(0, 0) without a LAND", NEW, x -> x.seal(0, 0), UNKNOWN);
        refused("seal(0, 0), a ninth", CRAMMED, x -> x.seal(0, 0), FULL);
        refused("seal(1, 47), a ninth", CRAMMED, x -> x.seal(1, 47), FULL);
    }

    private static void was() {
        Check.sentence("25 was", "WAS. OUTSIDE.");
        for (int month : new int[] {-1, 49, LEAST, MOST}) {
            refused("was(" + month + ")", RICH, x -> x.was(month), OUTSIDE);
            refused("was(" + month + ") without a LAND", NEW, x -> x.was(month), OUTSIDE);
        }
    }

    private static void book() {
        Check.sentence("27 write", "An entry behind THE BOOK: how many. OUTSIDE, FULL (15).");
        for (int learnt : new int[] {-1, 10000, LEAST, MOST}) {
            refused("write(" + learnt + ")", RICH, x -> x.write(learnt), OUTSIDE);
            refused("write(" + learnt + "), a sixteenth", CRAMMED, x -> x.write(learnt), OUTSIDE);
        }
        refused("write(0), a sixteenth", CRAMMED, x -> x.write(0), FULL);
        refused("write(9999), a sixteenth", CRAMMED, x -> x.write(9999), FULL);
    }

    private static void draws() {
        Check.sentence("30 seed", "THE SEED becomes v (0 .. 2147483647): what it was. OUTSIDE.");
        for (int v : new int[] {-1, -2, LEAST}) {
            refused("seed(" + v + ")", RICH, x -> x.seed(v), OUTSIDE);
            refused("seed(" + v + ") without a LAND", NEW, x -> x.seed(v), OUTSIDE);
        }
    }

    private static void images() {
        Check.sentence("31 keep", "IMAGE i becomes what is so (nothing can be undone then): 1. UNKNOWN.");
        for (int i : new int[] {-1, 2, LEAST, MOST}) {
            refused("keep(" + i + ")", RICH, x -> x.keep(i), UNKNOWN);
        }
        Check.sentence("32 goBack", "What is so becomes IMAGE i (nothing can be undone then): 1. UNKNOWN, NOT: it was not kept.");
        for (int i : new int[] {-1, 2, LEAST, MOST}) {
            refused("goBack(" + i + ")", RICH, x -> x.goBack(i), UNKNOWN);
        }
        refused("IMAGE 1 was not kept", RICH, x -> x.goBack(1), NOT);
        refused("IMAGE 0 was not kept", AT_HOME, x -> x.goBack(0), NOT);
        refused("IMAGE 0 of a new object", NEW, x -> x.goBack(0), NOT);
    }

    /** A promise that names no refusal has none, whatever is so. */
    private static void neverRefused() {
        Check.sentence("Terms", "REFUSALS, of several the first in this order");
        Twin.Calls[] states = {NEW, NO_TOWNS, RICH, AT_HOME, CRAMMED, LATE};
        for (Twin.Calls state : states) {
            JourneyRoads x = new JourneyRoads();
            state.on(x);
            Check.holds("idle()", x.idle() >= 0);
            Check.holds("stranded()", x.stranded() >= 0);
            Check.holds("fits()", x.fits() >= 0);
            Check.holds("bought()", x.bought() >= 0);
            Check.holds("ask()", x.ask() >= NONE);
            Check.holds("judge()", x.judge() >= NONE);
            Check.holds("fault()", x.fault() >= NONE);
            Check.holds("tear()", x.tear() >= 0);
            Check.due("keep(0)", x.keep(0), 1);
            Check.due("keep(1)", x.keep(1), 1);
            Check.due("goBack(0)", x.goBack(0), 1);
            Check.due("goBack(1)", x.goBack(1), 1);
            Check.holds("write(0)", x.write(0) == 1);
            Check.holds("seed(most)", x.seed(MOST) >= 0);
        }
    }

    private static void triedChangesNothing() {
        Check.sentence("section 3", "TRIED from now; nothing changes by it (ROADS as they are).");
        for (Twin.Calls state : new Twin.Calls[] {FRESH, RICH, LATE}) {
            Twin.tried("may(0)", state, x -> x.may(0));
            Twin.tried("may(1)", state, x -> x.may(1));
            Twin.tried("reach(2)", state, x -> x.reach(2));
            Twin.tried("best(36, -1)", state, x -> x.best(36, NONE));
            Twin.tried("best(36, 35)", state, x -> x.best(36, 35));
            Twin.tried("seals(31)", state, x -> x.seals(31));
            Twin.tried("two(2)", state, x -> x.two(2));
        }
        for (Twin.Calls state : new Twin.Calls[] {NEW, NO_TOWNS, FRESH, RICH, AT_HOME, CRAMMED}) {
            Twin.tried("idle()", state, x -> x.idle());
            Twin.tried("stranded()", state, x -> x.stranded());
            Twin.tried("snow(60, 50)", state, x -> x.snow(60, 50));
            Twin.tried("fits()", state, x -> x.fits());
            Twin.tried("bought()", state, x -> x.bought());
            Twin.tried("was(24)", state, x -> x.was(24));
            Twin.tried("ask()", state, x -> x.ask());
            Twin.tried("judge()", state, x -> x.judge());
            Twin.tried("fault()", state, x -> x.fault());
        }
    }
}
