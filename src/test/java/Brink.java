/** The way to 9000 months, within the 512 calls of an object. */
final class Brink {
    private static final String LAND = "l4 0;" + "t50 4095 1;".repeat(5) + "r0 1;r0 2;r0 3;r0 4;r1 2;r1 3;r1 4;r2 3;r2 4;r3 4;";
    // By THE SEED 4 the DRAWS of 230 times 40 months lead to month 8992, in TOWN 0, with the ROADS 1, 6, 7, 8, 9 SHUT.
    private static final int SEED = 4, TIMES = 230, MONTHS = 8992, SHUT = 962;

    private Brink() { }

    /** Behind 9000 months (350 calls); of the last 8 some are WALKED between TOWNS 0 and 1, then some are STAYED. */
    static void at9000(JourneyRoads x, int walks, int stays) {
        Check.landOn(x, LAND);
        x.seed(SEED);
        for (int i = 0; i < TIMES; i++) {
            x.drift(40);
        }
        for (int i = 0; i < walks; i++) {
            x.walk(1 - i % 2);
        }
        Check.stays(x, stays);
        x.keep(0);
    }

    /** That the way leads where it is told to. */
    static void check() {
        JourneyRoads x = new JourneyRoads();
        at9000(x, 0, 0);
        Check.due("the way to 9000, months", x.told(5), MONTHS);
        Check.due("the way to 9000, TOWN", x.told(6), 0);
        Check.due("the way to 9000, SHUT", x.told(10), SHUT);
    }
}
