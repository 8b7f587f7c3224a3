/** Section 2, the draws, what is undone and IMAGES (promises 1, 5 to 13, 30 to 32): each boundary that the document names. */
public final class DoneEdgesTest {
    private static final int NONE = Check.NONE, NOT = Check.NOT, FULL = Check.FULL;
    // TOWNS 0, 1, 2, all joined; WORK in every month, 1, 2 and 4 LEARNT.
    private static final String RING = "l2 0;t50 4095 1;t60 4095 2;t70 4095 4;r0 1;r0 2;r1 2;";

    public static void main(String[] args) {
        newObject();
        asItComes();
        begin();
        monthOfYear();
        stayLimit();
        workAndSeals();
        banned();
        walk();
        home();
        war();
        aboveAll();
        seed();
        drawOfRoads();
        drawOfMoves();
        driftMonths();
        undone();
        undoneAtMost();
        images();
        Check.end("DoneEdgesTest");
    }

    private static void sentence(String where, String words) {
        Check.sentence(where, words);
    }

    private static JourneyRoads land(String text) {
        return Check.land(text);
    }

    private static void newObject() {
        sentence("1 a new object", "No LAND.");
        JourneyRoads x = new JourneyRoads();
        for (int what = 0; what <= 14; what++) {
            Check.due("told(" + what + ")", x.told(what), 0);
        }
        Twin.same("as behind an empty text", y -> { }, y -> y.land());
        Twin.same("as behind a LAND and an empty text", y -> { }, y -> {
            Check.landOn(y, Check.LAND);
            y.stay();
            y.land();
        });
        Twin.differ("other than a LAND without TOWNS", y -> { }, y -> Check.landOn(y, "l1 0;"));
    }

    private static void asItComes() {
        sentence("Terms", "What has a number has it from 0 on, as it comes.");
        JourneyRoads x = land("l1 0;t51 1 1;t52 2 2;t53 4 3;r2 1;r1 0;");
        for (int t = 0; t < 3; t++) {
            Check.due("miles of TOWN " + t, x.town(t, 0), 51 + t);
            Check.due("WORK of TOWN " + t, x.town(t, 1), 1 << t);
            Check.due("L of TOWN " + t, x.town(t, 2), 1 + t);
        }
        Check.due("ROAD 0 from", x.road(0, 0), 2);
        Check.due("ROAD 0 to", x.road(0, 1), 1);
        Check.due("ROAD 1 from", x.road(1, 0), 1);
        Check.due("ROAD 1 to", x.road(1, 1), 0);
        sentence("Terms", "A SET is a whole number, bit k for k.");
        Check.due("ROADS from TOWN 0", x.town(0, 3), 2);
        Check.due("ROADS from TOWN 1", x.town(1, 3), 5);
        Check.due("ROADS from TOWN 2", x.town(2, 3), 2);
        x.war(1, true);
        Check.due("SHUT", x.told(10), 2);
        x.war(0, true);
        Check.due("both SHUT", x.told(10), 3);
        JourneyRoads most = land("l1 0;" + "t50 1 1;".repeat(8) + "r0 1;r0 2;r0 3;r0 4;r0 5;r0 6;r0 7;r1 2;r1 3;r1 4;r1 5;r1 6;");
        Check.due("all ROADS from TOWN 0", most.town(0, 3), 254);
        Check.due("ROADS from TOWN 7", most.town(7, 3), 1);
        for (int r = 0; r < 12; r++) {
            most.war(r, true);
            Check.due("SHUT up to ROAD " + r, most.told(10), (2 << r) - 1);
            Check.due("ROAD " + r + " is SHUT", most.road(r, 2), 1);
        }
    }

    private static void begin() {
        sentence("section 2", "He is in TOWN 0 at first, in month 0");
        Check.journey("at first", land("l3 9;t10 4095 3;t60 1 1;r0 1;"), 0, 0, 0, 0, 0, 0, 0);
        sentence("section 2", "with no month STAYED there");
        JourneyRoads x = land("l1 0;t10 4095 3;");
        Check.due("STAYED", x.told(7), 0);
        Check.due("he may STAY by R of 1", x.stay(), 3);
        Check.due("STAYED behind it", x.told(7), 1);
    }

    private static void monthOfYear() {
        sentence("section 2", "month k is S and k, left over by 12, of the year");
        for (int s = 0; s < 12; s++) {
            for (int work = 0; work < 12; work++) {
                String towns = " " + (1 << work) + " 1;";
                String text = "l4 " + s + ";t50" + towns + "t60" + towns + "r0 1;";
                int first = (work - s + 12) % 12;
                for (int k = 0; k < 26; k += 1 + k % 2) {
                    JourneyRoads x = land(text);
                    Check.walks(x, k);
                    Check.due("S " + s + ", WORK in month " + work + ", stay() in month " + k, x.stay(), k % 12 == first ? 1 : 0);
                }
            }
        }
    }

    private static void stayLimit() {
        sentence("section 2", "he STAYS, if he has STAYED fewer than R months on end there");
        for (int r = 1; r <= 4; r++) {
            JourneyRoads x = land("l" + r + " 0;t50 0 1;t60 4095 1;r0 1;");
            for (int round = 0; round < 3; round++) {
                for (int i = 1; i <= r; i++) {
                    Check.due("may(1) ahead of month " + i + " of " + r, x.may(1), 1);
                    Check.due("month " + i + " of " + r, x.stay(), round % 2);
                    Check.due("STAYED", x.told(7), i);
                }
                Check.due("may(1) behind " + r, x.may(1), 0);
                Check.due("a month more than " + r, x.stay(), NOT);
                Check.walks(x, 1);
                Check.due("STAYED behind WALKING", x.told(7), 0);
            }
            Check.due("months", x.told(5), 3 * r + 3);
        }
    }

    private static void workAndSeals() {
        sentence("section 2", "if there is WORK, he LEARNS L, has its SEAL (a SET); STAYED is 1 more");
        JourneyRoads x = land("l4 11;t50 2048 20;t60 1 0;t70 0 20;r0 1;r1 2;r0 2;");
        Check.due("WORK in the last month of the year", x.stay(), 20);
        Check.journey("behind it", x, 1, 0, 1, 20, 1, 0, 0);
        Check.due("no WORK in the first", x.stay(), 0);
        Check.journey("behind that", x, 2, 0, 2, 20, 1, 0, 0);
        JourneyRoads none = land("l4 11;t50 0 20;");
        Check.due("no WORK at all", none.stay(), 0);
        Check.journey("no SEAL without WORK", none, 1, 0, 1, 0, 0, 0, 0);
        JourneyRoads nothing = land("l1 0;t50 1 0;");
        Check.due("L of 0", nothing.stay(), 0);
        Check.due("its SEAL", nothing.told(9), 1);
        JourneyRoads seals = land("l1 0;" + "t50 4095 1;".repeat(8) + "r0 1;r1 2;r2 3;r3 4;r4 5;r5 6;r6 7;");
        for (int t = 0; t < 8; t++) {
            seals.stay();
            Check.due("SEALS up to TOWN " + t, seals.told(9), (2 << t) - 1);
            seals.walk(t + 1);
        }
        Check.due("LEARNT", seals.told(8), 8);
        seals.walk(6);
        seals.stay();
        Check.due("a SEAL again is no other", seals.told(9), 255);
        Check.due("but it is LEARNT", seals.told(8), 9);
    }

    private static void banned() {
        sentence("section 2", "A TOWN is BANNED, if it has fewer than 50 miles: nobody WALKS to it (he may begin in one).");
        for (int miles : new int[] {0, 48, 49, 50, 51, 999}) {
            boolean is = miles < 50;
            JourneyRoads x = land("l1 0;t" + miles + " 4095 1;t60 4095 1;r0 1;");
            Check.due(miles + " miles", x.town(0, 4), is ? 1 : 0);
            Check.due("he begins at " + miles + " miles", x.stay(), 1);
            Check.due("and leaves", x.walk(1), 2);
            Check.due("may(0) to " + miles + " miles", x.may(0), is ? 0 : 1);
            Check.due("back to " + miles + " miles", x.walk(0), is ? NOT : 3);
        }
    }

    private static void walk() {
        sentence("section 2", "Or he WALKS by a ROAD that is not SHUT to a TOWN that is not BANNED: STAYED is 0. Months are counted.");
        JourneyRoads x = land(RING);
        Check.stays(x, 2);
        Check.due("walk(2)", x.walk(2), 3);
        Check.journey("behind it", x, 3, 2, 0, 2, 1, 0, 0);
        Check.due("the ROAD from its B to its A", x.walk(1), 4);
        x.war(0, true);
        Check.due("SHUT from its A", x.walk(0), NOT);
        x.walk(2);
        x.walk(0);
        Check.due("SHUT from its B", x.walk(1), NOT);
        Check.due("by another ROAD", x.walk(2), 7);
        x.war(0, false);
        x.walk(0);
        Check.due("opened", x.walk(1), 9);
    }

    private static void home() {
        sentence("section 2", "HOME: behind 36 months (at least) he may go home for good, from anywhere.");
        for (int months = 0; months <= 38; months++) {
            JourneyRoads x = land(Check.PAIR);
            Check.walks(x, months);
            x.war(0, true);
            Check.due("behind " + months + " months", x.home(), months < 36 ? NOT : 0);
            Check.due("HOME", x.told(11), months < 36 ? 0 : 1);
            Check.due("the TOWN", x.told(6), months % 2);
        }
        sentence("11 home", "HOME: LEARNT.");
        JourneyRoads x = land(RING);
        Check.stays(x, 2);
        Check.walks(x, 34);
        Check.due("home()", x.home(), 2);
        Check.journey("behind it", x, 36, 0, 0, 2, 1, 0, 1);
        JourneyRoads late = new JourneyRoads();
        Brink.at9000(late, 8, 0);
        late.stay();
        int learnt = late.told(8);
        Check.due("home() behind 9001 months", late.home(), learnt);
    }

    private static void war() {
        sentence("10 war", "A ROAD is SHUT (is), or opened: 1 it was SHUT, 0 not. UNKNOWN.");
        JourneyRoads x = land(RING);
        int[][] rows = {{2, 1, 0, 4}, {2, 1, 1, 4}, {0, 1, 0, 5}, {0, 0, 1, 4}, {0, 0, 0, 4}, {2, 0, 1, 0}, {1, 0, 0, 0}};
        for (int[] row : rows) {
            Check.due("war(" + row[0] + ", " + row[1] + ")", x.war(row[0], row[1] == 1), row[2]);
            Check.due("SHUT", x.told(10), row[3]);
        }
        Check.due("each, even if nothing changed, can be undone", x.told(14), rows.length);
        Check.due("no month", x.told(5), 0);
        JourneyRoads late = new JourneyRoads();
        Brink.at9000(late, 8, 0);
        late.stay();
        Check.due("behind 9001 months", late.war(0, true), 0);
        late.home();
        Check.due("HOME", late.war(0, false), 1);
    }

    private static void aboveAll() {
        sentence("8 stay", "FULL: months are above 9000");
        Brink.check();
        JourneyRoads x = new JourneyRoads();
        Brink.at9000(x, 8, 0);
        Check.due("months", x.told(5), 9000);
        Check.due("stay() behind 9000", x.stay(), 1);
        Check.due("months behind it", x.told(5), 9001);
        Check.due("stay() behind 9001", x.stay(), FULL);
        Check.due("undo()", x.undo(), 0);
        Check.due("stay() again", x.stay(), 1);
        sentence("9 walk", "FULL: months are above 9000");
        x.goBack(0);
        Check.due("walk() behind 9000", x.walk(1), 9001);
        Check.due("walk() behind 9001", x.walk(0), FULL);
        sentence("12 drift", "FULL: months are above 9000");
        x.goBack(0);
        x.seed(Draws.seed(4, 1, 2, 0));
        Check.holds("drift(1) behind 9000", x.drift(1) >= 0);
        Check.due("months behind drift(1)", x.told(5), 9001);
        Check.due("drift(1) behind 9001", x.drift(1), FULL);
        x.goBack(0);
        x.seed(Draws.seed(4, 1, 2, 0, 4, 1, 2, 0, 4, 1, 2, 0));
        Check.holds("drift(3) behind 9000", x.drift(3) >= 0);
        Check.due("it is looked at ahead of all its months", x.told(5), 9003);
    }

    private static void seed() {
        sentence("30 seed", "THE SEED becomes v (0 .. 2147483647): what it was.");
        JourneyRoads x = new JourneyRoads();
        int[] seeds = {0, 1, 65535, 65536, 2147483646, 2147483647, 0};
        int was = 0;
        for (int v : seeds) {
            Check.due("seed(" + v + ")", x.seed(v), was);
            was = v;
        }
        sentence("section 3", "THE SEED (0 at first: each DRAW it becomes it times 1103515245 and 12345, left over by 2 to the 31");
        Check.due("at first", new JourneyRoads().seed(5), 0);
        // One TOWN without ROADS: a month takes two DRAWS.
        int[][] rows = {{0, 1406932606}, {1, 377401575}, {65536, Draws.next(Draws.next(65536))}, {2147483647, Draws.next(Draws.next(2147483647))}};
        for (int[] row : rows) {
            JourneyRoads y = land("l1 0;t50 0 0;");
            y.seed(row[0]);
            y.drift(1);
            Check.due("two DRAWS from " + row[0], y.seed(0), row[1]);
        }
    }

    private static void drawOfRoads() {
        sentence("section 3", "ahead of each a DRAW of 4: on 0 a DRAW of ROADS (if there are any): that one is SHUT, or opened, if it was");
        for (int four = 0; four < 4; four++) {
            for (int r = 0; r < 3; r++) {
                JourneyRoads x = land(RING);
                x.war(1, true);
                int seed = four == 0 ? Draws.seed(4, 0, 3, r, 2, 0) : Draws.seed(4, four, 2, 0);
                x.seed(seed);
                Check.due("he STAYS", x.drift(1), 1);
                Check.due("SHUT by " + four + ", " + r, x.told(10), four == 0 ? 2 ^ (1 << r) : 2);
                Check.due("DRAWS by " + four, x.seed(0), Draws.behind(seed, four == 0 ? 3 : 2));
            }
        }
        JourneyRoads none = land("l1 0;t50 4095 1;");
        int seed = Draws.seed(4, 0, 2, 0);
        none.seed(seed);
        Check.due("no ROADS, he STAYS", none.drift(1), 1);
        Check.due("no ROADS, no DRAW of them", none.seed(0), Draws.behind(seed, 2));
        JourneyRoads one = land(Check.PAIR);
        seed = Draws.seed(4, 0, 1, 0, 2, 0);
        one.seed(seed);
        one.drift(1);
        Check.due("a DRAW of 1 ROAD", one.told(10), 1);
        Check.due("is a DRAW, too", one.seed(0), Draws.behind(seed, 3));
        JourneyRoads twelve = land("l1 0;" + "t50 1 1;".repeat(8) + "r0 1;r0 2;r0 3;r0 4;r0 5;r0 6;r0 7;r1 2;r1 3;r1 4;r1 5;r1 6;");
        for (int r = 0; r < 12; r++) {
            twelve.seed(Draws.seed(4, 0, 12, r, 2, 0));
            twelve.drift(1);
            Check.due("the ROAD " + r + " of 12", twelve.told(10), 1 << r);
            twelve.undo();
        }
    }

    private static void drawOfMoves() {
        sentence("section 3", "then a DRAW of 2: on 0 he STAYS, if he may; on 1, or if he may not, he WALKS to the least TOWN to which he may; if there is none, nothing (no month is counted).");
        int stays = Draws.seed(4, 1, 2, 0);
        int walks = Draws.seed(4, 1, 2, 1);
        JourneyRoads x = land(RING);
        drift(x, stays);
        Check.journey("on 0 he STAYS", x, 1, 0, 1, 1, 1, 0, 0);
        drift(x, stays);
        Check.journey("again", x, 2, 0, 2, 2, 1, 0, 0);
        drift(x, stays);
        Check.journey("he may not: he WALKS", x, 3, 1, 0, 2, 1, 0, 0);
        drift(x, walks);
        Check.journey("on 1 to the least TOWN", x, 4, 0, 0, 2, 1, 0, 0);
        x.war(0, true);
        drift(x, walks);
        Check.journey("by a ROAD that is not SHUT", x, 5, 2, 0, 2, 1, 1, 0);
        JourneyRoads last = land("l1 0;t20 4095 1;" + "t10 0 0;".repeat(6) + "t50 0 0;r0 1;r0 2;r0 3;r0 4;r0 5;r0 6;r0 7;");
        drift(last, walks);
        Check.journey("past BANNED TOWNS to TOWN 7", last, 1, 7, 0, 0, 0, 0, 0);
        drift(last, walks);
        Check.journey("on 1 no TOWN: nothing, though he may STAY", last, 1, 7, 0, 0, 0, 0, 0);
        drift(last, stays);
        Check.journey("on 0 he STAYS", last, 2, 7, 1, 0, 0, 0, 0);
        drift(last, stays);
        Check.journey("on 0 he may not, no TOWN: nothing", last, 2, 7, 1, 0, 0, 0, 0);
        Check.due("nothing is done, too: it can be undone", last.told(14), 4);
        // The ROAD that is SHUT, or opened, by the DRAW is so ahead of the month.
        JourneyRoads shut = land(Check.PAIR);
        drift(shut, Draws.seed(4, 0, 1, 0, 2, 1));
        Check.journey("SHUT ahead of WALKING", shut, 0, 0, 0, 0, 0, 1, 0);
        drift(shut, Draws.seed(4, 0, 1, 0, 2, 1));
        Check.journey("opened ahead of WALKING", shut, 1, 1, 0, 0, 0, 0, 0);
    }

    private static void drift(JourneyRoads x, int seed) {
        x.seed(seed);
        x.drift(1);
    }

    private static void driftMonths() {
        sentence("12 drift", "n months (1 .. 40) BY DRAWS: LEARNT.");
        for (int n : new int[] {1, 2, 39, 40}) {
            JourneyRoads all = land(RING);
            JourneyRoads single = land(RING);
            int learnt = 0;
            for (int i = 0; i < n; i++) {
                learnt = single.drift(1);
            }
            Check.due("drift(" + n + ") like " + n + " times drift(1)", all.drift(n), learnt);
            for (int what = 5; what <= 11; what++) {
                Check.due("told(" + what + ") behind drift(" + n + ")", all.told(what), single.told(what));
            }
            Check.due("THE SEED behind drift(" + n + ")", all.seed(0), single.seed(0));
            Check.due("one can be undone", all.told(14), 1);
        }
        JourneyRoads x = land(RING);
        x.stay();
        x.seed(Draws.seed(4, 1, 2, 0));
        Check.due("all that he has LEARNT, not of this month alone", x.drift(1), 2);
        JourneyRoads nothing = land("l1 0;t50 4095 5;");
        int seed = Draws.seed(4, 1, 2, 0);
        nothing.seed(seed);
        Check.due("40 months, one STAYED", nothing.drift(40), 5);
        Check.due("months counted", nothing.told(5), 1);
        Check.due("DRAWS of months in which nothing is done", nothing.seed(0), Draws.behind(seed, 80));
    }

    private static void undone() {
        sentence("section 3", "all of section 2 is as ahead of it; THE SEED stays");
        JourneyRoads x = land(RING);
        x.stay();
        x.war(1, true);
        x.walk(1);
        x.stay();
        Check.walks(x, 33);
        x.seed(6);
        x.home();
        Check.journey("all done", x, 36, 0, 0, 3, 3, 2, 1);
        x.undo();
        Check.journey("home() undone", x, 36, 0, 0, 3, 3, 2, 0);
        x.war(1, false);
        x.undo();
        Check.journey("war() undone", x, 36, 0, 0, 3, 3, 2, 0);
        x.walk(1);
        x.stay();
        x.undo();
        Check.journey("stay() undone", x, 37, 1, 0, 3, 3, 2, 0);
        x.undo();
        Check.journey("walk() undone", x, 36, 0, 0, 3, 3, 2, 0);
        x.seed(4);
        x.drift(40);
        int seed = x.seed(9);
        Check.holds("drift() has drawn", seed != 4);
        x.seed(seed);
        x.undo();
        Check.journey("drift() undone", x, 36, 0, 0, 3, 3, 2, 0);
        Check.due("THE SEED", x.seed(0), seed);
        sentence("section 3", "UNDONE: the latest of stay(), walk(), war(), home(), drift() that was not refused");
        JourneyRoads y = land(Check.LAND);
        int[] refused = {y.walk(2), y.walk(9), y.war(9, true), y.home(), y.drift(0), y.drift(41)};
        Check.due("none of " + refused.length + " that were refused", y.told(14), 0);
        y.stay();
        y.seal(0, 0);
        y.write(3);
        y.seed(3);
        y.feed('l');
        y.tear();
        Check.due("no other call can be undone", y.told(14), 1);
        Check.due("undo()", y.undo(), 0);
        Check.due("undo() itself cannot", y.undo(), NOT);
        y.stay();
        y.undo();
        y.walk(1);
        Check.due("behind an undo()", y.told(14), 1);
        y.undo();
        Check.journey("as at first", y, 0, 0, 0, 0, 0, 0, 0);
    }

    private static void undoneAtMost() {
        sentence("section 3", "20 at most are kept, the oldest are lost");
        for (int n : new int[] {19, 20, 21, 22, 40, 41, 65}) {
            JourneyRoads x = land(Check.PAIR);
            for (int i = 0; i < n; i++) {
                x.walk(1 - i % 2);
            }
            int kept = Math.min(n, 20);
            Check.due("of " + n, x.told(14), kept);
            for (int i = kept - 1; i >= 0; i--) {
                Check.due("undo() of " + n, x.undo(), i);
                Check.due("months of " + n, x.told(5), n - kept + i);
                Check.due("TOWN of " + n, x.told(6), (n - kept + i) % 2);
            }
            Check.due("the oldest of " + n + " are lost", x.undo(), NOT);
            Check.due("months", x.told(5), n - kept);
        }
        sentence("13 undo", "The latest is undone: how many more can be.");
        JourneyRoads x = land(Check.PAIR);
        for (int i = 0; i < 25; i++) {
            x.walk(1 - i % 2);
        }
        for (int i = 0; i < 5; i++) {
            x.undo();
        }
        for (int i = 0; i < 7; i++) {
            x.war(0, true);
        }
        Check.due("20 again", x.told(14), 20);
        for (int i = 0; i < 7; i++) {
            Check.due("a war() undone", x.undo(), 19 - i);
            Check.due("months", x.told(5), 20);
        }
        for (int i = 12; i >= 0; i--) {
            Check.due("a walk() undone", x.undo(), i);
            Check.due("months", x.told(5), 7 + i);
        }
        Check.due("none more", x.undo(), NOT);
    }

    private static void images() {
        sentence("section 3", "IMAGES 0, 1 keep all of section 2, THE SEED.");
        JourneyRoads x = land(RING);
        Check.stays(x, 2);
        x.walk(2);
        x.stay();
        x.war(2, true);
        x.seed(31);
        Check.due("keep(0)", x.keep(0), 1);
        x.war(2, false);
        x.walk(1);
        Check.walks(x, 31);
        x.stay();
        x.home();
        x.seed(2147483647);
        Check.due("keep(1)", x.keep(1), 1);
        x.war(0, true);
        x.seed(5);
        for (int round = 0; round < 2; round++) {
            Check.due("goBack(0)", x.goBack(0), 1);
            Check.journey("IMAGE 0", x, 4, 2, 1, 6, 5, 4, 0);
            Check.due("its SEED", x.seed(8), 31);
            x.stay();
            Check.due("goBack(1)", x.goBack(1), 1);
            Check.journey("IMAGE 1", x, 37, 0, 1, 7, 5, 0, 1);
            Check.due("its SEED", x.seed(9), 2147483647);
            x.war(1, true);
        }
        sentence("31 keep", "IMAGE i becomes what is so (nothing can be undone then): 1.");
        JourneyRoads y = land(RING);
        y.stay();
        y.stay();
        Check.due("two can be undone", y.told(14), 2);
        Check.due("keep(1)", y.keep(1), 1);
        Check.due("nothing can be undone", y.told(14), 0);
        Check.due("undo()", y.undo(), NOT);
        y.walk(1);
        Check.due("behind it", y.told(14), 1);
        y.keep(1);
        y.walk(2);
        y.goBack(1);
        Check.journey("kept again", y, 3, 1, 0, 2, 1, 0, 0);
        sentence("32 goBack", "What is so becomes IMAGE i (nothing can be undone then): 1.");
        y.walk(0);
        y.seal(1, 1);
        y.write(7);
        y.feed('l');
        Check.due("one can be undone", y.told(14), 1);
        Check.due("goBack(1)", y.goBack(1), 1);
        Check.due("nothing can be undone", y.told(14), 0);
        Check.due("undo()", y.undo(), NOT);
        Check.due("TOLD SEALS stay", y.told(12), 1);
        Check.due("THE BOOK stays", y.told(13), 1);
        Check.due("THE TEXT stays", y.told(4), 1);
        JourneyRoads z = new JourneyRoads();
        z.seed(12);
        Check.due("keep(0) without a LAND", z.keep(0), 1);
        z.seed(13);
        z.goBack(0);
        Check.due("its SEED", z.seed(0), 12);
    }
}
