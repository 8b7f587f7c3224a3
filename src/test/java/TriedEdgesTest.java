/** Section 3 (promises 14 to 29): each boundary that the document names. */
public final class TriedEdgesTest {
    private static final int NONE = Check.NONE, NOT = Check.NOT;
    private static final String LINE = "l1 0;" + "t50 4095 0;".repeat(8) + "r0 1;r1 2;r2 3;r3 4;r4 5;r5 6;r6 7;";
    private static final String STAR = "l4 0;" + "t50 4095 1;".repeat(7) + "t50 4095 20;r0 1;r0 2;r0 3;r0 4;r0 5;r0 6;r0 7;";

    public static void main(String[] args) {
        may();
        reach();
        bestMonths();
        bestFirst();
        bestNone();
        seals();
        sealsAtMost();
        two();
        twoAsTheyMay();
        toldSeals();
        ways();
        fits();
        bought();
        was();
        ask();
        idle();
        stranded();
        snow();
        book();
        tear();
        Check.end("TriedEdgesTest");
    }

    private static void sentence(String where, String words) {
        Check.sentence(where, words);
    }

    private static JourneyRoads land(String text) {
        return Check.land(text);
    }

    private static void may() {
        sentence("section 3", "MAY: TOWNS (a SET) to which he may WALK this month; whether he may STAY.");
        JourneyRoads x = land(STAR);
        Check.due("all seven", x.may(0), 254);
        x.war(0, true);
        x.war(6, true);
        Check.due("two ROADS SHUT", x.may(0), 124);
        for (int r = 1; r < 6; r++) {
            x.war(r, true);
        }
        Check.due("all SHUT", x.may(0), 0);
        Check.due("he may STAY", x.may(1), 1);
        Check.stays(x, 4);
        Check.due("he may not", x.may(1), 0);
        x.war(6, false);
        x.walk(7);
        Check.due("back", x.may(0), 1);
        Check.due("STAY anew", x.may(1), 1);
        Check.due("BANNED ones are left out", land("l1 0;t0 0 0;t49 0 0;t50 0 0;t0 0 0;r0 1;r0 2;r0 3;").may(0), 4);
        Check.due("no ROADS", land("l1 0;t50 0 0;").may(0), 0);
    }

    private static void reach() {
        sentence("section 3", "REACH: the fewest months to a TOWN (as he may); NONE.");
        JourneyRoads ring = land(LINE + "r7 0;");
        int[] due = {0, 1, 2, 3, 4, 3, 2, 1};
        for (int t = 0; t < 8; t++) {
            Check.due("in a ring, reach(" + t + ")", ring.reach(t), due[t]);
        }
        ring.war(7, true);
        for (int t = 0; t < 8; t++) {
            Check.due("in a line, reach(" + t + ")", ring.reach(t), t);
        }
        ring.stay();
        Check.due("where he is, behind R months", ring.reach(0), 0);
        ring.war(6, true);
        Check.due("the last ROAD SHUT", ring.reach(7), NONE);
        Check.due("ahead of it", ring.reach(6), 6);
        JourneyRoads banned = land("l1 0;t49 0 0;t50 0 0;t49 0 0;t50 0 0;r0 1;r1 2;r2 3;");
        Check.due("in a BANNED TOWN", banned.reach(0), 0);
        Check.due("from it", banned.reach(1), 1);
        Check.due("to another", banned.reach(2), NONE);
        Check.due("through it", banned.reach(3), NONE);
        banned.walk(1);
        Check.due("back", banned.reach(0), NONE);
        Check.due("no ROADS", land("l1 0;t50 0 0;t50 0 0;").reach(1), NONE);
    }

    private static void bestIs(JourneyRoads x, int n, int much, int... towns) {
        Check.due("best(" + n + ", -1)", x.best(n, NONE), much);
        for (int i = 0; i < towns.length; i++) {
            Check.due("best(" + n + ", " + i + ")", x.best(n, i), towns[i]);
        }
    }

    private static void bestMonths() {
        sentence("section 3", "BEST for n months (1 .. 36): most LEARNT in these");
        // WORK in TOWN 0 in month 0 of the year, in TOWN 1 in the months 2 and 3.
        JourneyRoads x = land("l2 0;t50 1 3;t60 12 5;r0 1;");
        int[] year = {0, 1, 1, 1, 0, 0, 0, 1, 1, 1, 0, 0};
        int[] years = new int[36];
        for (int i = 0; i < 36; i++) {
            years[i] = year[i % 12];
        }
        bestIs(x, 36, 39, years);
        bestIs(x, 1, 3, 0);
        bestIs(x, 2, 3, 0, 0);
        bestIs(x, 3, 8, 0, 1, 1);
        bestIs(x, 4, 13, 0, 1, 1, 1);
        bestIs(x, 5, 13, 0, 1, 1, 1, 0);
        bestIs(x, 6, 13, 0, 1, 1, 1, 0, 0);
        bestIs(x, 13, 16);
        bestIs(x, 12, 13);
        JourneyRoads later = land("l2 10;t50 1 3;t60 12 5;r0 1;");
        Check.walks(later, 2);
        bestIs(later, 4, 13, 0, 1, 1, 1);
        later.stay();
        bestIs(later, 3, 10, 1, 1, 1);
        JourneyRoads star = land(STAR);
        // Six times there, four months each; one of 36 months is left to STAY first.
        bestIs(star, 36, 6 * 80 + 1, 0, 7, 7, 7, 7, 7, 0, 7);
        bestIs(star, 1, 1, 0);
        bestIs(star, 2, 20, 7, 7);
        bestIs(star, 5, 80, 7, 7, 7, 7, 7);
        bestIs(star, 6, 81, 0, 7, 7, 7, 7, 7);
        bestIs(star, 7, 82, 0, 0, 7, 7, 7, 7, 7);
        bestIs(star, 8, 100, 7, 7, 7, 7, 7, 0, 7, 7);
        star.war(6, true);
        bestIs(star, 4, 4, 0, 0, 0, 0);
        bestIs(star, 5, 4, 0, 0, 0, 0, 1);
        star.war(6, false);
        Check.due("nothing is LEARNT by trying", star.told(8), 0);
    }

    private static void bestFirst() {
        sentence("section 3", "of like ones the first (month by month: to STAY ahead of WALKING, then the lesser TOWN)");
        JourneyRoads x = land("l1 0;t50 0 0;t50 0 0;t50 0 0;r0 2;r0 1;r1 2;");
        bestIs(x, 6, 0, 0, 1, 1, 0, 0, 1);
        x.stay();
        bestIs(x, 4, 0, 1, 1, 0, 0);
        x.walk(2);
        // To STAY in TOWN 2 goes ahead of the lesser TOWNS.
        bestIs(x, 4, 0, 2, 0, 0, 1);
        x.stay();
        x.war(0, true);
        bestIs(x, 4, 0, 1, 1, 0, 0);
        JourneyRoads star = land("l1 0;t50 0 0;t0 0 0;t50 0 0;t50 0 0;r0 3;r0 2;r0 1;");
        bestIs(star, 2, 0, 0, 2);
        // Like much is LEARNT in TOWN 1 and in TOWN 2; he STAYS first, as month 1 is early enough.
        JourneyRoads like = land("l2 0;t50 0 0;t50 4 7;t50 4 7;r0 2;r0 1;");
        bestIs(like, 3, 7, 0, 1, 1);
        JourneyRoads more = land("l2 0;t50 0 0;t50 4 6;t50 4 7;r0 2;r0 1;");
        bestIs(more, 3, 7, 0, 2, 2);
        JourneyRoads now = land("l2 0;t50 1 7;t50 2 7;r0 1;");
        bestIs(now, 2, 7, 0, 0);
    }

    private static void bestNone() {
        sentence("section 3", "NONE: he cannot go on so long");
        for (int r = 1; r <= 4; r++) {
            JourneyRoads x = land("l" + r + " 0;t50 4095 2;");
            for (int done = 0; done <= r; done++) {
                for (int n = 1; n <= 6; n++) {
                    boolean can = n <= r - done;
                    Check.due("R " + r + ", best(" + n + ", -1) behind " + done, x.best(n, NONE), can ? 2 * n : NONE);
                    Check.due("R " + r + ", best(" + n + ", 0) behind " + done, x.best(n, 0), can ? 0 : NONE);
                    Check.due("R " + r + ", best(" + n + ", " + (n - 1) + ") behind " + done, x.best(n, n - 1), can ? 0 : NONE);
                }
                x.stay();
            }
        }
        JourneyRoads pit = land("l2 0;t0 4095 1;t50 4095 1;r0 1;");
        bestIs(pit, 5, 4, 0, 0, 1, 1, 1);
        bestIs(pit, 6, NONE, NONE, NONE, NONE, NONE, NONE, NONE);
        bestIs(pit, 4, 3, 0, 0, 1, 1);
        pit.war(0, true);
        bestIs(pit, 2, 2, 0, 0);
        bestIs(pit, 3, NONE, NONE);
    }

    private static void seals() {
        sentence("section 3", "from now behind which he has all SEALS of a SET (those he has count)");
        JourneyRoads x = land(LINE);
        Check.due("none asked for", x.seals(0), 0);
        for (int t = 0; t < 8; t++) {
            Check.due("the SEAL of " + t, x.seals(1 << t), t + 1);
        }
        for (int left = 15; left > 0; left--) {
            Check.due("all, " + left + " months left", x.seals(255), left);
            Check.due("the last two, " + left + " months left", x.seals(192), left < 4 ? left : left / 2 + 2);
            if (left % 2 == 1) {
                x.stay();
            } else {
                x.walk(x.told(6) + 1);
            }
        }
        Check.due("all that he has", x.seals(255), 0);
        Check.due("the last two that he has", x.seals(192), 0);
        Check.due("one that he has", x.seals(128), 0);
        x.undo();
        Check.due("undone", x.seals(255), 1);
        Check.due("but the last", x.seals(127), 0);
        JourneyRoads waits = land("l4 0;t0 4095 0;t60 256 0;r0 1;");
        waits.stay();
        Check.due("he keeps a SEAL while he waits where he has it", waits.seals(3), 8);
    }

    private static void sealsAtMost() {
        sentence("section 3", "SEALS: the fewest months (0 .. 60)");
        // Each of six TOWNS has WORK in the last month of the year alone, so each SEAL takes a year.
        String year = "t50 2048 0;".repeat(6) + "r0 1;r1 2;r2 3;r3 4;r4 5;";
        for (int s = 0; s < 12; s++) {
            JourneyRoads x = land("l1 " + s + ";" + year);
            Check.due("S " + s + ", five SEALS", x.seals(31), 60 - s);
            Check.due("S " + s + ", six SEALS take " + (72 - s), x.seals(63), NONE);
        }
        // He cannot come back to TOWN 0, nor leave TOWN 1: by four months in each the SEAL of month 8 is the last that he can have.
        Check.due("month 8", land("l4 0;t0 4095 0;t60 256 0;r0 1;").seals(2), 9);
        Check.due("month 8, both", land("l4 0;t0 4095 0;t60 256 0;r0 1;").seals(3), 9);
        Check.due("month 9", land("l4 0;t0 4095 0;t60 512 0;r0 1;").seals(2), NONE);
        Check.due("no ROAD", land("l4 0;t50 4095 0;t60 4095 0;").seals(2), NONE);
        Check.due("no ROAD, one of both", land("l4 0;t50 4095 0;t60 4095 0;").seals(3), NONE);
        Check.due("no ROAD to the third", land("l4 0;t50 4095 0;t60 4095 0;t70 4095 0;r0 1;").seals(4), NONE);
        Check.due("no WORK", land("l4 0;t50 0 0;t60 4095 0;r0 1;").seals(1), NONE);
        Check.due("no WORK in the first of eight", land(LINE.replace("l1 0;t50 4095", "l4 0;t50 0")).seals(129), NONE);
        Check.due("no WORK in the last of eight", land(LINE.replace("l1", "l4").replace("t50 4095 0;r0", "t50 0 0;r0")).seals(128), NONE);
        Check.due("a BANNED TOWN", land("l4 0;t50 4095 0;t49 4095 0;r0 1;").seals(2), NONE);
    }

    private static void two() {
        sentence("section 3", "behind how many months (0 .. 24) both can be in one TOWN first");
        // Two who can meet at all are never more than 7 ROADS apart, so 24 is never reached.
        int[] due = {0, 1, 1, 2, 2, 3, 3, 4};
        for (int r = 1; r <= 4; r++) {
            JourneyRoads x = land(LINE.replace("l1", "l" + r));
            for (int t = 0; t < 8; t++) {
                Check.due("R " + r + ", two(" + t + ")", x.two(t), due[t]);
            }
            Check.stays(x, r);
            for (int t = 0; t < 8; t++) {
                Check.due("R " + r + " STAYED, two(" + t + ")", x.two(t), due[t]);
            }
            x.war(3, true);
            Check.due("this side of a ROAD SHUT", x.two(3), 2);
            Check.due("that side", x.two(4), NONE);
        }
    }

    private static void twoAsTheyMay() {
        sentence("section 3", "both as they may; NONE");
        for (int r = 1; r <= 4; r++) {
            JourneyRoads x = land("l" + r + " 0;t50 0 0;t0 0 0;r0 1;");
            for (int i = 0; i < r; i++) {
                Check.due("he may STAY, the other comes from a BANNED TOWN", x.two(1), 1);
                x.stay();
            }
            Check.due("he may neither STAY nor WALK", x.two(1), NONE);
            Check.due("both are there", x.two(0), 0);
        }
        JourneyRoads banned = land("l1 0;t0 0 0;t0 0 0;t50 0 0;r0 1;r1 2;");
        Check.due("neither WALKS to a BANNED TOWN", banned.two(1), NONE);
        JourneyRoads middle = land("l1 0;t0 0 0;t0 0 0;t50 0 0;r0 2;r1 2;");
        Check.due("both WALK from BANNED TOWNS", middle.two(1), 1);
        Check.due("the other STAYS", middle.two(2), 1);
    }

    private static void toldSeals() {
        sentence("section 3", "TOLD SEALS (8 at most): he had WORK in a TOWN in month k (0 .. 47), STAYING there.");
        JourneyRoads x = land(Check.PAIR);
        int[] months = {0, 47, 2, 5, 8, 11, 14, 17};
        for (int i = 0; i < 8; i++) {
            Check.due("seal(" + i % 2 + ", " + months[i] + ")", x.seal(i % 2, months[i]), i + 1);
        }
        Check.due("a ninth", x.seal(0, 0), Check.FULL);
        Check.due("TOLD SEALS", x.told(12), 8);
        for (int s = 0; s < 12; s++) {
            JourneyRoads y = land("l4 " + s + ";t50 32 0;t60 0 0;r0 1;");
            for (int k = 0; k < 48; k++) {
                y.seal(0, k);
                Check.due("S " + s + ", WORK in month 5 of the year, seal in " + k, y.fits(), (s + k) % 12 == 5 ? 1 : 0);
                y.tear();
            }
        }
        JourneyRoads nothing = land("l4 0;t50 4095 0;t60 0 20;r0 1;");
        nothing.seal(0, 0);
        Check.due("WORK by which nothing is LEARNT", nothing.fits(), 1);
        nothing.seal(1, 5);
        Check.due("no WORK", nothing.fits(), 0);
    }

    private static void ways() {
        sentence("section 3", "A WAY: 48 months from TOWN 0 on, none STAYED there at first, month by month as he may, no ROAD SHUT, all TOLD SEALS so.");
        for (int r = 1; r <= 4; r++) {
            JourneyRoads x = land("l" + r + " 0;t50 4095 0;t60 4095 0;r0 1;");
            Check.stays(x, r);
            x.war(0, true);
            Check.due("R " + r + ", whatever he has done", x.fits(), 1);
            Check.due("R " + r + ", from TOWN 0", x.was(0), 1);
            for (int first : new int[] {0, 20, 48 - r}) {
                x.tear();
                for (int i = 0; i < r; i++) {
                    x.seal(0, first + i);
                }
                Check.due("R " + r + ", " + r + " months on end from " + first, x.fits(), 1);
                x.seal(0, first == 0 ? r : first - 1);
                Check.due("R " + r + ", a month more", x.fits(), 0);
            }
        }
        JourneyRoads y = land(LINE);
        y.seal(7, 6);
        Check.due("seven months are WALKED", y.fits(), 0);
        y.tear();
        y.seal(7, 7);
        Check.due("then he STAYS", y.fits(), 1);
        y.seal(0, 14);
        Check.due("seven back, too", y.fits(), 0);
        y.tear();
        y.seal(7, 7);
        y.seal(0, 15);
        Check.due("then he STAYS again", y.fits(), 1);
        Check.due("four months and no more", land("l4 0;t50 0 0;").fits(), 0);
        Check.due("nine months and no more", land("l4 0;t0 0 0;t50 0 0;r0 1;").fits(), 0);
        Check.due("no TOWNS", land("l4 0;").fits(), 0);
    }

    private static void fits() {
        sentence("section 3", "FITS: 1 there is such a WAY, 0 not.");
        int[][] rows = {{0, 3, 1, 3, 0}, {1, 3, 0, 3, 0}, {0, 3, 0, 3, 1}, {0, 3, 1, 4, 0}, {0, 3, 1, 5, 1}, {1, 5, 0, 3, 1}, {1, 0, 1, 0, 0},
            {0, 47, 1, 45, 1}, {0, 47, 1, 46, 0}, {0, 0, 1, 47, 1}};
        for (int[] row : rows) {
            JourneyRoads x = land(Check.PAIR);
            x.seal(row[0], row[1]);
            x.seal(row[2], row[3]);
            Check.due("seals of " + row[0] + " in " + row[1] + ", of " + row[2] + " in " + row[3], x.fits(), row[4]);
        }
    }

    private static void bought() {
        sentence("section 3", "BOUGHT: TOLD SEALS (a SET) of which each, left out alone, makes the others fit; 0, if all fit.");
        for (int wrong = 0; wrong < 8; wrong++) {
            JourneyRoads x = land(Check.PAIR);
            for (int i = 0; i < 8; i++) {
                x.seal(i == wrong ? 1 : 0, 0);
            }
            Check.due("the seal " + wrong + " of 8", x.bought(), 1 << wrong);
        }
        JourneyRoads x = land(Check.PAIR);
        Check.due("none told", x.bought(), 0);
        x.seal(1, 0);
        Check.due("one that cannot be", x.bought(), 1);
        x.seal(1, 1);
        Check.due("two that hinder one another", x.bought(), 1);
        x.seal(1, 3);
        Check.due("three, of which two cannot be so", x.bought(), 0);
        x.tear();
        x.seal(0, 3);
        x.seal(1, 3);
        Check.due("either", x.bought(), 3);
        x.seal(1, 3);
        Check.due("the one against two", x.bought(), 1);
        x.tear();
        x.seal(0, 3);
        x.seal(1, 5);
        Check.due("all fit", x.bought(), 0);
        JourneyRoads never = land("l4 0;t50 4095 0;");
        never.seal(0, 0);
        Check.due("no WAY, whichever is left out", never.bought(), 0);
    }

    /** In LINE these leave one TOWN for each month: to and fro by seven ROADS, a month STAYED at each end. */
    private static void pin(JourneyRoads x) {
        for (int i = 0; i < 6; i++) {
            x.seal(i % 2 * 7, i * 8);
        }
    }

    private static int pinned(int month) {
        int c = month % 16;
        return c < 2 ? 0 : c < 9 ? c - 1 : c == 9 ? 7 : 16 - c;
    }

    private static void was() {
        sentence("section 3", "WAS: TOWNS (a SET) in which he can have been at the begin of month k (0 .. 48; 48: at the end) by such a WAY.");
        JourneyRoads x = land(LINE);
        int[] free = {1, 3, 7, 15, 31, 63, 127, 255};
        for (int month = 0; month <= 48; month++) {
            Check.due("nothing told, was(" + month + ")", x.was(month), free[Math.min(month, 7)]);
        }
        pin(x);
        for (int month = 0; month <= 42; month++) {
            Check.due("told to month 40, was(" + month + ")", x.was(month), 1 << pinned(month));
        }
        int[] open = {64, 224, 240, 248, 252, 254, 255};
        for (int month = 42; month <= 48; month++) {
            Check.due("behind it, was(" + month + ")", x.was(month), open[month - 42]);
        }
        x.seal(1, 47);
        for (int month = 0; month <= 48; month++) {
            Check.due("told to the end, was(" + month + ")", x.was(month), month == 48 ? 2 : 1 << pinned(month));
        }
        x.seal(2, 47);
        JourneyRoads alone = land("l4 0;t50 4095 0;");
        JourneyRoads without = new JourneyRoads();
        for (int month = 0; month <= 48; month++) {
            Check.due("no WAY, was(" + month + ")", x.was(month), 0);
            Check.due("one TOWN, was(" + month + ")", alone.was(month), 0);
            Check.due("no LAND, was(" + month + ")", without.was(month), 0);
        }
        JourneyRoads r2 = land("l2 0;t50 4095 0;t60 4095 0;r0 1;");
        r2.seal(0, 1);
        r2.seal(0, 46);
        r2.seal(0, 47);
        int[][] rows = {{0, 1}, {1, 1}, {2, 1}, {3, 2}, {4, 3}, {45, 2}, {46, 1}, {47, 1}, {48, 1}};
        for (int[] row : rows) {
            Check.due("by R of 2, was(" + row[0] + ")", r2.was(row[0]), row[1]);
        }
        JourneyRoads left = land("l4 0;t0 0 0;t50 0 0;t60 0 0;t70 4095 0;r0 1;r1 2;r0 3;");
        // TOWN 3 cannot be left, as its only ROAD leads to a BANNED TOWN.
        Check.due("only where he can go on from", left.was(1), 3);
        Check.due("at the latest he leaves behind four months", left.was(4), 7);
        Check.due("and is gone then", left.was(5), 6);
    }

    private static void ask() {
        sentence("section 3", "ASK: the month (1 .. 48) at whose begin he can have been in most TOWNS; of like ones the least");
        Check.due("the first", land(Check.PAIR).ask(), 1);
        JourneyRoads x = land(LINE);
        Check.due("the least of those with all eight", x.ask(), 7);
        pin(x);
        Check.due("the last", x.ask(), 48);
        x.tear();
        x.seal(0, 7);
        x.seal(7, 47);
        // At the begin of month 9 he is in TOWN 1, so six months on he can be in all eight.
        Check.due("in the midst", x.ask(), 15);
        sentence("section 3", "NONE: in one at most each");
        JourneyRoads one = land(LINE);
        pin(one);
        one.seal(1, 47);
        Check.due("a WAY", one.fits(), 1);
        Check.due("one TOWN each", one.ask(), NONE);
        one.seal(0, 1);
        Check.due("no WAY", one.ask(), NONE);
        Check.due("one TOWN without ROADS", land("l4 0;t50 0 0;").ask(), NONE);
        Check.due("no LAND", new JourneyRoads().ask(), NONE);
    }

    private static void idle() {
        sentence("section 3", "IDLE: months of the year (a SET) in which no TOWN that is not BANNED has WORK.");
        for (int month = 0; month < 12; month++) {
            for (int s = 0; s < 12; s += 5) {
                Check.due("WORK in " + month, land("l1 " + s + ";t50 " + (1 << month) + " 0;").idle(), 4095 - (1 << month));
                Check.due("WORK in " + month + " in a BANNED TOWN", land("l1 " + s + ";t49 " + (1 << month) + " 9;").idle(), 4095);
            }
        }
        Check.due("all eight count", land("l1 0;t50 1 1;t50 2 1;t50 4 1;t50 8 1;t50 16 1;t50 32 1;t50 64 1;t50 128 1;").idle(), 3840);
        Check.due("none is left", land("l1 0;t50 4095 1;").idle(), 0);
        Check.due("no LAND", new JourneyRoads().idle(), 4095);
        Check.due("no TOWNS", land("l1 0;").idle(), 4095);
        JourneyRoads fewer = land("l1 0;t50 1 1;t50 4095 1;");
        Check.landOn(fewer, "l1 0;t50 1 1;t50 4095 1;");
        Check.landOn(fewer, "l1 0;t50 1 1;");
        Check.due("TOWNS of an earlier LAND do not count", fewer.idle(), 4094);
    }

    private static void stranded() {
        sentence("section 3", "STRANDED: TOWNS (a SET) from which no ROAD that is not SHUT leads to one that is not BANNED.");
        Check.due("no LAND", new JourneyRoads().stranded(), 0);
        Check.due("no TOWNS", land("l1 0;").stranded(), 0);
        Check.due("no ROADS", land("l1 0;" + "t50 0 0;".repeat(8)).stranded(), 255);
        JourneyRoads x = land(LINE);
        Check.due("none", x.stranded(), 0);
        x.war(0, true);
        Check.due("the first", x.stranded(), 1);
        x.war(6, true);
        Check.due("first and last", x.stranded(), 129);
        x.war(1, true);
        Check.due("the second, too", x.stranded(), 131);
        x.undo();
        Check.due("undone", x.stranded(), 129);
        JourneyRoads banned = land("l1 0;t49 0 0;t50 0 0;t49 0 0;r0 1;r0 2;");
        Check.due("TOWN 1 and 2 have ROADS to BANNED TOWNS alone", banned.stranded(), 6);
        banned.war(0, true);
        Check.due("TOWN 0 has no other", banned.stranded(), 7);
    }

    private static void snow() {
        sentence("section 3", "SNOW: odds that none of n passes (0 .. 60) is shut, each by q of a hundred: a BILLION times (100 less q) / 100 each (cut).");
        JourneyRoads x = new JourneyRoads();
        for (int q = 0; q <= 100; q++) {
            Check.due("no pass, q " + q, x.snow(0, q), 1000000000);
            Check.due("one pass, q " + q, x.snow(1, q), 10000000 * (100 - q));
        }
        for (int n = 1; n <= 60; n++) {
            Check.due(n + " passes that are never shut", x.snow(n, 0), 1000000000);
            Check.due(n + " passes that are always shut", x.snow(n, 100), 0);
        }
        int[][] rows = {{2, 50, 250000000}, {9, 50, 1953125}, {10, 50, 976562}, {11, 50, 488281}, {12, 50, 244140}, {29, 50, 1}, {30, 50, 0},
            {4, 99, 10}, {5, 99, 0}, {3, 1, 970299000}, {4, 1, 960596010}, {5, 1, 950990049}, {6, 1, 941480148}, {60, 1, 547156620}};
        for (int[] row : rows) {
            Check.due("snow(" + row[0] + ", " + row[1] + ")", new JourneyRoads().snow(row[0], row[1]), row[2]);
        }
        sentence("Terms", "All numbers are whole; / cuts towards 0.");
        Check.due("8 of 9 cut off", new JourneyRoads().snow(5, 91), 5904);
        Check.due("behind that", new JourneyRoads().snow(6, 91), 531);
        Check.due("and that", new JourneyRoads().snow(7, 91), 47);
    }

    private static void book() {
        sentence("section 3", "THE BOOK (15 at most) tells what he has LEARNT (0 .. 9999): WRONG: the first entry that is otherwise now; NONE.");
        for (int wrong = 0; wrong < 15; wrong++) {
            JourneyRoads x = land(Check.PAIR);
            x.stay();
            for (int i = 0; i < 15; i++) {
                Check.due("entry " + i, x.write(i == wrong ? 9999 : i > wrong ? 0 : 1), i + 1);
            }
            Check.due("a sixteenth", x.write(1), Check.FULL);
            Check.due("the entry " + wrong + " is WRONG", x.judge(), wrong);
            x.undo();
            Check.due("undone, the first is WRONG", x.judge(), 0);
        }
        JourneyRoads x = land(Check.PAIR);
        Check.due("none", x.judge(), NONE);
        for (int i = 1; i <= 15; i++) {
            x.write(0);
            Check.due("as it is, of " + i, x.judge(), NONE);
        }
        x.stay();
        Check.due("not any more", x.judge(), 0);
        JourneyRoads much = land("l4 0;" + "t50 4095 20;".repeat(3) + "r0 1;r0 2;r1 2;");
        for (int i = 0; i < 40; i++) {
            much.drift(40);
        }
        Check.holds("more is LEARNT than can be written", much.told(8) > 9999);
        much.write(9999);
        Check.due("that is WRONG", much.judge(), 0);
        JourneyRoads without = new JourneyRoads();
        Check.due("without a LAND", without.write(0), 1);
        Check.due("nothing is LEARNT", without.judge(), NONE);
        without.write(1);
        Check.due("1 is WRONG", without.judge(), 1);
    }

    private static void tear() {
        sentence("28 tear", "No TOLD SEALS, THE BOOK is empty: how much both had.");
        JourneyRoads x = land(Check.PAIR);
        Check.due("nothing", x.tear(), 0);
        x.seal(1, 0);
        Check.due("a TOLD SEAL", x.tear(), 1);
        x.write(5);
        Check.due("an entry", x.tear(), 1);
        for (int i = 0; i < 8; i++) {
            x.seal(1, 0);
        }
        for (int i = 0; i < 15; i++) {
            x.write(7);
        }
        Check.due("all", x.tear(), 23);
        Check.due("TOLD SEALS", x.told(12), 0);
        Check.due("entries", x.told(13), 0);
        Check.due("all fits", x.fits(), 1);
        Check.due("nothing is WRONG", x.judge(), NONE);
        Check.due("seals can be told", x.seal(0, 0), 1);
        Check.due("entries, too", x.write(0), 1);
        Check.due("it cannot be undone", x.undo(), NOT);
    }
}
