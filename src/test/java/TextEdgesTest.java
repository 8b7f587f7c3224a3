/** Section 1 and the promises 2 to 4: each boundary that the document names for a text. */
public final class TextEdgesTest {
    private static final int NONE = Check.NONE, FULL = Check.FULL;
    // Five letters, eight letters.
    private static final String L = "l1 0;", T = "t50 1 1;";
    private static final String TWO = L + T + T;
    private static final String EIGHT = L + T.repeat(8);
    private static final String TWELVE = "r0 1;r0 2;r0 3;r0 4;r0 5;r0 6;r0 7;r1 2;r1 3;r1 4;r1 5;r1 6;";

    public static void main(String[] args) {
        letters();
        limits();
        firstAndOnce();
        towns();
        townNumbers();
        roads();
        roadTowns();
        figures();
        words();
        blanks();
        sideBySide();
        firstLetter();
        end();
        least();
        cannotStand();
        outOfBounds();
        tooMany();
        sameRoad();
        empty();
        faultLeavesAll();
        landMakesAllNew();
        latestFault();
        Check.end("TextEdgesTest");
    }

    private static void sentence(String where, String words) {
        Check.sentence(where, words);
    }

    private static JourneyRoads fine(String text, int towns) {
        JourneyRoads x = new JourneyRoads();
        Check.feed(x, text);
        Check.due("land() of '" + text + "'", x.land(), towns);
        Check.due("fault() of '" + text + "'", x.fault(), NONE);
        Check.due("letters behind land() of '" + text + "'", x.told(4), 0);
        return x;
    }

    private static void faultOf(String text, int number, int letter) {
        JourneyRoads x = new JourneyRoads();
        Check.feed(x, text);
        Check.due("land() of '" + text + "'", x.land(), -10 - number);
        Check.due("fault() of '" + text + "'", x.fault(), letter);
        Check.due("letters behind land() of '" + text + "'", x.told(4), 0);
        Check.due("no LAND by '" + text + "'", x.told(0) + x.told(1) + x.told(2) + x.told(3), 0);
    }

    private static void letters() {
        sentence("section 1", "told in a text (240 letters at most)");
        fine(L + " ".repeat(227) + T, 1);
        faultOf(L + " ".repeat(234) + "?", 1, 239);
        faultOf(L + " ".repeat(234) + "t", 1, 240);
        JourneyRoads x = new JourneyRoads();
        Check.feed(x, L + " ".repeat(228) + "t50 1 1");
        Check.due("letters", x.told(4), 240);
        Check.due("the ';' as letter 240", x.feed(';'), FULL);
        Check.due("land() without it", x.land(), -11);
        Check.due("fault() without it", x.fault(), 240);
        sentence("2 feed", "One letter (a number 0 .. 255) comes behind THE TEXT: how many it has.");
        for (int letter = 0; letter <= 255; letter++) {
            JourneyRoads y = new JourneyRoads();
            Check.due("feed(" + letter + ")", y.feed(letter), 1);
            Check.due("feed(" + letter + ") again", y.feed(letter), 2);
            Check.due("letters", y.told(4), 2);
        }
        JourneyRoads z = new JourneyRoads();
        for (int i = 1; i <= 240; i++) {
            Check.due("letter " + i, z.feed(' '), i);
        }
        sentence("2 feed", "OUTSIDE, FULL (240).");
        Check.due("the letter 240", z.feed(' '), FULL);
        Check.due("again", z.feed('l'), FULL);
        Check.due("letters", z.told(4), 240);
        Check.due("feed(-1)", z.feed(-1), Check.OUTSIDE);
        Check.due("feed(256)", z.feed(256), Check.OUTSIDE);
        z.land();
        Check.due("an emptied text takes letters", z.feed(255), 1);
        Check.due("feed(-1) of one", z.feed(-1), Check.OUTSIDE);
        Check.due("feed(256) of one", z.feed(256), Check.OUTSIDE);
        Check.due("feed(least)", z.feed(Check.LEAST), Check.OUTSIDE);
        Check.due("feed(most)", z.feed(Check.MOST), Check.OUTSIDE);
        Check.due("a letter by its lowest eight bits", z.feed(256 + 'l'), Check.OUTSIDE);
        Check.due("letters of one", z.told(4), 1);
    }

    private static void limits() {
        sentence("section 1", "one may stay R months at most where one is, 1 .. 4");
        for (int r = 0; r <= 12; r++) {
            String text = "l" + r + " 0;";
            if (r >= 1 && r <= 4) {
                Check.due("R of " + text, fine(text, 0).told(0), r);
            } else {
                faultOf(text, 2, 1);
            }
        }
        faultOf("l9999 0;", 2, 1);
        faultOf("l-1 0;", 1, 1);
        sentence("section 1", "months are counted from month S of the year, 0 .. 11");
        for (int s = 0; s <= 24; s++) {
            String text = "l1 " + s + ";";
            if (s <= 11) {
                Check.due("S of " + text, fine(text, 0).told(1), s);
            } else {
                faultOf(text, 2, 3);
            }
        }
        faultOf("l1 9999;", 2, 3);
    }

    private static void firstAndOnce() {
        sentence("section 1", "first, once");
        fine(L, 0);
        faultOf(T + L, 1, 0);
        faultOf("r0 1;" + L, 1, 0);
        faultOf("  " + T, 1, 2);
        faultOf(L + L, 3, 5);
        faultOf(L + T + "l2 0;", 3, 13);
        faultOf(TWO + "r0 1;l", 3, 26);
    }

    private static void towns() {
        sentence("section 1", "8 TOWNS at most");
        for (int n = 0; n <= 8; n++) {
            JourneyRoads x = fine(L + T.repeat(n), n);
            Check.due("TOWNS", x.told(2), n);
            Check.due("the last", x.town(n - 1, 0), n > 0 ? 50 : Check.UNKNOWN);
            Check.due("none more", x.town(n, 0), Check.UNKNOWN);
        }
        faultOf(EIGHT + T, 3, 69);
    }

    private static void townNumbers() {
        sentence("section 1", "M miles from home, 0 .. 999");
        for (int m : new int[] {0, 1, 49, 50, 999}) {
            Check.due("miles", fine(L + "t" + m + " 0 0;", 1).town(0, 0), m);
        }
        faultOf(L + "t1000 0 0;", 2, 6);
        faultOf(L + "t9999 0 0;", 2, 6);
        sentence("section 1", "WORK in months W, 0 .. 4095");
        for (int w : new int[] {0, 1, 2048, 4095}) {
            Check.due("WORK", fine(L + "t0 " + w + " 0;", 1).town(0, 1), w);
        }
        faultOf(L + "t0 4096 0;", 2, 8);
        faultOf(L + "t0 9999 0;", 2, 8);
        sentence("section 1", "one learns L in a month there, 0 .. 20");
        for (int l : new int[] {0, 1, 20}) {
            Check.due("L", fine(L + "t0 0 " + l + ";", 1).town(0, 2), l);
        }
        faultOf(L + "t0 0 21;", 2, 10);
        faultOf(L + "t0 0 9999;", 2, 10);
    }

    private static void roads() {
        sentence("section 1", "12 ROADS at most between unlike TOWNS told ahead, no two between the same");
        for (int n = 0; n <= 12; n++) {
            JourneyRoads x = fine(EIGHT + TWELVE.substring(0, 5 * n), 8);
            Check.due("ROADS", x.told(3), n);
            Check.due("none more", x.road(n, 0), Check.UNKNOWN);
        }
        JourneyRoads x = fine(EIGHT + TWELVE, 8);
        Check.due("the twelfth from", x.road(11, 0), 1);
        Check.due("the twelfth to", x.road(11, 1), 6);
        faultOf(EIGHT + TWELVE + "r1 7;", 3, 129);
        JourneyRoads three = fine(TWO + T + "r0 1;r2 0;r1 2;", 3);
        Check.due("as told, from", three.road(1, 0), 2);
        Check.due("as told, to", three.road(1, 1), 0);
        sentence("section 1", "a TOWN that was not told yet (at its first)");
        faultOf(L + "r0 0;", 2, 6);
        faultOf(L + T + "r1 0;", 2, 14);
        faultOf(L + T + "r0 1;", 2, 16);
        faultOf(L + T + "r0 1;" + T, 2, 16);
        faultOf(L + T + "r1 0;" + T, 2, 14);
        faultOf(EIGHT + "r8 0;", 2, 70);
        faultOf(EIGHT + "r7 8;", 2, 72);
        faultOf(EIGHT + "r7 0008;", 2, 72);
        fine(EIGHT + "r7 0;", 8);
        fine(EIGHT + "r0 7;", 8);
    }

    private static void roadTowns() {
        sentence("section 1", "4 B like A, both have a ROAD (at the B)");
        faultOf(L + T + "r0 0;", 4, 16);
        faultOf(L + T + "r0000 0;", 4, 19);
        faultOf(EIGHT + "r7 7;", 4, 72);
        faultOf(TWO + "r0 1;r0 1;", 4, 29);
        faultOf(TWO + "r0 1;r1 0;", 4, 29);
        faultOf(TWO + "r1 0;r0 1;", 4, 29);
        faultOf(TWO + "r1 0;r1   00;", 4, 31);
        faultOf(EIGHT + TWELVE.substring(0, 55) + "r3 1;", 4, 127);
    }

    private static void figures() {
        sentence("section 1", "NUMBERS have one to four figures");
        fine("l4 9;t0 0 0;t9 9 9;r0 1;", 2);
        JourneyRoads x = fine("l0004 0011;t0999 4095 0020;t0000 0000 0000;r0001 0000;", 2);
        int[] due = {4, 11, 2, 1};
        for (int what = 0; what < 4; what++) {
            Check.due("told(" + what + ")", x.told(what), due[what]);
        }
        Check.due("miles", x.town(0, 0), 999);
        Check.due("WORK", x.town(0, 1), 4095);
        Check.due("L", x.town(0, 2), 20);
        faultOf("l;", 1, 1);
        faultOf("l1;", 1, 2);
        sentence("section 1", "2 a NUMBER of five figures or more, or out of its bounds");
        faultOf("l00001 0;", 2, 1);
        faultOf("l1 00000;", 2, 3);
        faultOf(L + "t00000 0 0;", 2, 6);
        faultOf(L + "t0 00000 0;", 2, 8);
        faultOf(L + "t0 0 00000;", 2, 10);
        faultOf(TWO + "r00000 1;", 2, 22);
        faultOf(TWO + "r0 00001;", 2, 24);
        faultOf("l000001 0;", 2, 1);
        faultOf("l10000 0;", 2, 1);
        // 2 to the 32 and 1, 2 to the 64 and 1: in an int or a long they would be 1.
        faultOf("l4294967297 0;", 2, 1);
        faultOf("l18446744073709551617 0;", 2, 1);
        faultOf("l1" + "0".repeat(239), 2, 1);
        faultOf("l1 " + "0".repeat(237), 2, 3);
    }

    private static void words() {
        sentence("section 1", "a word is one letter");
        faultOf("ll1 0;", 1, 1);
        faultOf(L + "tt50 1 1;", 1, 6);
        faultOf(TWO + "rr0 1;", 1, 22);
        faultOf("L1 0;", 1, 0);
        faultOf(L + "T50 1 1;", 1, 5);
        faultOf(L + T + T + "R0 1;", 1, 21);
    }

    private static void blanks() {
        sentence("section 1", "blanks (32) may stand anywhere but within NUMBERS");
        String[] parts = {"l", "3", " ", "11", ";", "t", "50", " ", "4095", " ", "20", ";", "t", "60", " ", "7", " ", "1", ";", "r", "1", " ", "0", ";"};
        for (int at = 0; at <= parts.length; at++) {
            StringBuilder text = new StringBuilder();
            for (int i = 0; i <= parts.length; i++) {
                text.append(i == at ? "   " : "").append(i < parts.length ? parts[i] : "");
            }
            JourneyRoads x = fine(text.toString(), 2);
            Check.due("R", x.told(0), 3);
            Check.due("S", x.told(1), 11);
            Check.due("ROADS", x.told(3), 1);
            Check.due("miles of 1", x.town(1, 0), 60);
        }
        faultOf("l1 1 1;", 1, 5);
        faultOf(L + "t5 0 1 1;", 1, 12);
        for (int sign : new int[] {0, 9, 10, 13, 31, 33, 95, 160}) {
            faultOf("l1" + (char) sign + "0;", 1, 2);
            faultOf(L + (char) sign, 1, 5);
        }
    }

    private static void sideBySide() {
        sentence("section 1", "two NUMBERS side by side need one");
        faultOf("l11;", 2, 1);
        faultOf(L + "t501 1;", 1, 11);
        faultOf(L + "t50 11;", 1, 11);
        faultOf(TWO + "r01;", 1, 24);
        fine(TWO + "r0 1;", 2);
    }

    private static void firstLetter() {
        sentence("section 1", "FAULTS, at the first letter that has one");
        faultOf("l5 12;", 2, 1);
        faultOf("l1 12?", 2, 3);
        faultOf("l0?", 2, 1);
        faultOf(L + "t1000 4096 21?", 2, 6);
        faultOf(L + "t0 4096 21;", 2, 8);
        faultOf(L + T + "r0 0?", 4, 16);
        faultOf(L + T + "r5 ?", 2, 14);
        faultOf(L + "l9 9;", 3, 5);
        faultOf(EIGHT + "t1000 ?", 3, 69);
        faultOf(EIGHT + TWELVE + "r0 0;", 3, 129);
        faultOf("x" + L + L, 1, 0);
    }

    private static void end() {
        sentence("section 1", "the end at the text's length");
        for (int n = 1; n <= Check.LAND.length(); n++) {
            String text = Check.LAND.substring(0, n);
            if (text.endsWith(";")) {
                JourneyRoads x = new JourneyRoads();
                Check.feed(x, text);
                Check.holds("land() of '" + text + "' is none of a FAULT", x.land() >= 0);
            } else {
                faultOf(text, 1, n);
                faultOf(text + "  ", 1, n + 2);
            }
        }
    }

    private static void least() {
        sentence("section 1", "of these the least");
        // Five figures (2) and B like A (4); a NUMBER that cannot stand there (1) and is too long (2).
        faultOf(TWO + "r0 00000;", 2, 24);
        faultOf("l1 0 12345;", 1, 5);
        faultOf(L + "12345", 1, 5);
        faultOf("12345", 1, 0);
        // 'l' again (3) and a ninth 't' (3) where a NUMBER stands (1).
        faultOf("l1 l", 1, 3);
        faultOf(L + "l", 3, 5);
        faultOf(L + T.repeat(7) + "t50 t", 1, 65);
        faultOf(EIGHT + "r0 t", 1, 72);
    }

    private static void cannotStand() {
        sentence("section 1", "1 it cannot stand there (a letter that is no word, another word first than 'l')");
        for (int sign = 0; sign <= 255; sign++) {
            char c = (char) sign;
            boolean figure = c >= '0' && c <= '9';
            if (c == ' ') {
                fine(" ", 0);
                fine(L + " ", 0);
                faultOf("l ", 1, 2);
                faultOf("l1 0 ", 1, 5);
                continue;
            }
            faultOf("" + c, 1, c == 'l' ? 1 : 0);
            faultOf(L + c, c == 'l' ? 3 : 1, c == 't' || c == 'r' ? 6 : 5);
            if (figure) {
                faultOf("l" + c, c >= '1' && c <= '4' ? 1 : 2, c >= '1' && c <= '4' ? 2 : 1);
                faultOf("l1 0" + c, 1, 5);
            } else {
                faultOf("l" + c, 1, 1);
                if (c == ';') {
                    fine("l1 0" + c, 0);
                } else {
                    faultOf("l1 0" + c, 1, 4);
                }
            }
        }
    }

    private static void outOfBounds() {
        sentence("3 land", "-10 less the number of its FAULT");
        faultOf("?", 1, 0);
        faultOf("l0", 2, 1);
        faultOf(L + "l", 3, 5);
        faultOf(L + T + "r0 0", 4, 16);
    }

    private static void tooMany() {
        sentence("section 1", "3 'l' again, a ninth 't', a thirteenth 'r' (at it)");
        faultOf(L + "   l", 3, 8);
        faultOf(EIGHT + "  t", 3, 71);
        faultOf(EIGHT + TWELVE + " r", 3, 130);
        faultOf(EIGHT + TWELVE + "t", 3, 129);
        faultOf(EIGHT + TWELVE + "l", 3, 129);
        faultOf(EIGHT + TWELVE + "?", 1, 129);
    }

    private static void sameRoad() {
        sentence("section 1", "no two between the same");
        // All pairs of five TOWNS but one are told: only those are refused.
        String[] told = {"0 1", "0 2", "0 3", "0 4", "1 2", "1 3", "1 4", "2 3", "2 4"};
        StringBuilder text = new StringBuilder(L + T.repeat(5));
        for (String pair : told) {
            text.append('r').append(pair).append(';');
        }
        int at = text.length() + 3;
        for (String pair : told) {
            faultOf(text + "r" + pair + ";", 4, at);
            faultOf(text + "r" + pair.charAt(2) + " " + pair.charAt(0) + ";", 4, at);
        }
        Check.due("the one that is left", fine(text + "r4 3;", 5).told(3), 10);
    }

    private static void empty() {
        sentence("section 1", "An empty text: no LAND.");
        JourneyRoads x = fine("", 0);
        for (int what = 0; what <= 14; what++) {
            Check.due("told(" + what + ")", x.told(what), 0);
        }
        JourneyRoads y = Check.land(Check.LAND);
        Check.due("land() behind a LAND", y.land(), 0);
        for (int what = 0; what <= 14; what++) {
            Check.due("told(" + what + ") behind a LAND", y.told(what), 0);
        }
        Check.due("stay()", y.stay(), Check.NOT);
        Check.due("town(0, 0)", y.town(0, 0), Check.UNKNOWN);
        Check.due("road(0, 0)", y.road(0, 0), Check.UNKNOWN);
        // Blanks may stand anywhere: blanks alone are an empty text.
        fine(" ".repeat(240), 0);
    }

    private static void rich(JourneyRoads x) {
        Check.landOn(x, Check.LAND);
        x.stay();
        x.keep(1);
        x.walk(1);
        x.war(3, true);
        x.drift(5);
        x.seal(1, 7);
        x.write(3);
        x.seed(77);
    }

    private static void atHome(JourneyRoads x) {
        Check.landOn(x, Check.PAIR);
        Check.walks(x, 36);
        x.keep(0);
        x.home();
        x.seed(77);
    }

    private static void fed(JourneyRoads x, String text) {
        Check.feed(x, text);
        x.land();
    }

    private static void faultLeavesAll() {
        sentence("3 land", "(all else is as it was)");
        // Both twins have a FAULT at letter 5, so that fault() is like; one had another text ahead of it.
        String[] texts = {"l", "l0", "l3 7", "l3 7;t60 9 9;t70 9 9;r0 1;l", EIGHT + T, EIGHT + TWELVE + "r1 7;", TWO + "r0 1;r1 0;"};
        for (String text : texts) {
            Twin.same("behind '" + text + "'", x -> {
                rich(x);
                fed(x, "l1 0;?");
            }, x -> {
                rich(x);
                fed(x, text);
                fed(x, "l1 0;?");
            });
        }
        Twin.same("HOME", x -> {
            atHome(x);
            fed(x, "l1 0;?");
        }, x -> {
            atHome(x);
            fed(x, "l4 9;t50");
            fed(x, "l1 0;?");
        });
        sentence("3 land", "THE TEXT (it is empty then, with a FAULT, too)");
        JourneyRoads x = new JourneyRoads();
        fed(x, L + T + "?");
        Check.due("letters with a FAULT", x.told(4), 0);
        fed(x, L);
        Check.due("letters without", x.told(4), 0);
        Check.due("the text begins anew", x.told(0), 1);
        Check.due("none of the TOWNS is left", x.told(2), 0);
    }

    private static void landMakesAllNew() {
        sentence("3 land", "(month 0, nothing LEARNT, no SEALS, no ROAD SHUT; no TOLD SEALS, no BOOK; IMAGES, what could be undone are gone; THE SEED stays)");
        for (String text : new String[] {"", L, "l3 7;t60 9 9;", Check.PAIR, Check.LAND}) {
            Twin.Calls alone = x -> {
                x.seed(77);
                fed(x, text);
            };
            Twin.same("'" + text + "' behind a LAND", alone, x -> {
                rich(x);
                fed(x, text);
            });
            Twin.same("'" + text + "' when he is HOME", alone, x -> {
                atHome(x);
                fed(x, text);
            });
            Twin.same("'" + text + "' behind two LANDS and a FAULT", alone, x -> {
                fed(x, EIGHT + "r0 1;r0 2;");
                fed(x, "l4 11;" + T + T + T + "r0 2;r0 1;");
                fed(x, "l2 3;" + T + "r0 0;");
                x.seed(77);
                fed(x, text);
            });
        }
        sentence("3 land", "how many TOWNS");
        for (int n = 0; n <= 8; n++) {
            fine(L + T.repeat(n), n);
        }
    }

    private static void latestFault() {
        sentence("4 fault", "The letter of the FAULT of the latest land(); NONE.");
        JourneyRoads x = new JourneyRoads();
        Check.due("no land() yet", x.fault(), NONE);
        Check.feed(x, "?");
        Check.due("a text that was not read", x.fault(), NONE);
        x.land();
        Check.due("the letter 0", x.fault(), 0);
        fed(x, L + "?");
        Check.due("the letter 5", x.fault(), 5);
        Check.feed(x, L);
        Check.due("ahead of the next land()", x.fault(), 5);
        x.land();
        Check.due("no FAULT", x.fault(), NONE);
        fed(x, L + "l");
        Check.due("again", x.fault(), 5);
        x.land();
        Check.due("an empty text", x.fault(), NONE);
    }
}
