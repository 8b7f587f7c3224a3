import java.io.IOException;
import java.nio.file.Files;
import java.nio.file.Path;

/** Counts and tells the answers that are not as due, by the document's sentences where a test names them. */
final class Check {
    static final int NONE = -1, UNKNOWN = -1000000001, OUTSIDE = -1000000002, NOT = -1000000003, FULL = -1000000004;
    static final int LEAST = Integer.MIN_VALUE, MOST = Integer.MAX_VALUE;
    static final String LAND = "l2 4;t10 4095 3;t60 48 5;t90 4032 8;t200 63 12;t30 4095 20;r0 1;r1 2;r2 3;r1 3;r3 4;";
    // Two TOWNS with WORK in every month, 1 and 2 LEARNT, one ROAD; one may STAY one month.
    static final String PAIR = "l1 0;t50 4095 1;t60 4095 2;r0 1;";
    private static final Path DOCUMENT = Path.of("../shared/DOC.md");
    private static String document;
    private static String place = "";
    private static int sentences;
    private static int asked;
    private static int askedAhead;
    private static int wrong;

    private Check() { }

    static void due(String call, long got, long want) {
        asked++;
        if (got != want) {
            wrong++;
            System.out.println(place + call + " answered " + got + ", due is " + want);
        }
    }

    static void holds(String what, boolean is) {
        due(what, is ? 1 : 0, 1);
    }

    /** The rows from here on are the test of this sentence, in the document's own words. */
    static void sentence(String where, String words) {
        closeSentence();
        sentences++;
        place = where + ", \"" + words + "\": ";
        askedAhead = asked;
        if (!text().isEmpty() && !text().contains(flat(words))) {
            wrong++;
            System.out.println(place + "the document has no such words");
        }
    }

    // A sentence without a row would look tested and not be.
    private static void closeSentence() {
        if (!place.isEmpty() && asked == askedAhead) {
            wrong++;
            System.out.println(place + "nothing was asked");
        }
    }

    private static String flat(String words) {
        return words.replaceAll("\\s+", " ");
    }

    private static String text() {
        if (document == null) {
            try {
                document = Files.exists(DOCUMENT) ? flat(Files.readString(DOCUMENT)) : "";
            } catch (IOException e) {
                document = "";
            }
        }
        return document;
    }

    static void feed(JourneyRoads x, String text) {
        for (int i = 0; i < text.length(); i++) {
            x.feed(text.charAt(i));
        }
    }

    static JourneyRoads land(String text) {
        JourneyRoads x = new JourneyRoads();
        landOn(x, text);
        return x;
    }

    static void landOn(JourneyRoads x, String text) {
        feed(x, text);
        if (x.land() < 0) {
            due("land of " + text, 0, 1);
        }
    }

    static void stays(JourneyRoads x, int n) {
        for (int i = 0; i < n; i++) {
            x.stay();
        }
    }

    /** Goes to and fro between the TOWNS 0 and 1 for n months. */
    static void walks(JourneyRoads x, int n) {
        for (int i = 0; i < n; i++) {
            x.walk(1 - x.told(6));
        }
    }

    /** told(5) to told(11): all of section 2. */
    static void journey(String call, JourneyRoads x, int... due) {
        String[] names = {"months", "TOWN", "STAYED", "LEARNT", "SEALS", "SHUT", "HOME"};
        for (int i = 0; i < names.length; i++) {
            due(call + ", " + names[i], x.told(5 + i), due[i]);
        }
    }

    static void end(String name) {
        closeSentence();
        System.out.println(name + ": " + asked + " answers" + (sentences > 0 ? " to " + sentences + " sentences, " : ", ")
            + wrong + " not as due");
        if (wrong != 0) {
            System.exit(1);
        }
    }
}
