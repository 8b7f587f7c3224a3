/** Counts and tells the answers that are not as due. */
final class Check {
    static final String LAND = "l2 4;t10 4095 3;t60 48 5;t90 4032 8;t200 63 12;t30 4095 20;r0 1;r1 2;r2 3;r1 3;r3 4;";
    private static int wrong;
    private static int asked;

    private Check() { }

    static void due(String call, long got, long want) {
        asked++;
        if (got != want) {
            wrong++;
            System.out.println(call + " answered " + got + ", due is " + want);
        }
    }

    static void feed(JourneyRoads x, String text) {
        for (int i = 0; i < text.length(); i++) {
            x.feed(text.charAt(i));
        }
    }

    static JourneyRoads land(String text) {
        JourneyRoads x = new JourneyRoads();
        feed(x, text);
        if (x.land() < 0) {
            due("land of " + text, 0, 1);
        }
        return x;
    }

    static void end(String name) {
        System.out.println(name + ": " + asked + " answers, " + wrong + " not as due");
        if (wrong != 0) {
            System.exit(1);
        }
    }
}
