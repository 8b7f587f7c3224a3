import java.util.ArrayList;
import java.util.List;

/** Two objects that were given the same calls: whether one more call leaves a trace is found by asking both everything. */
final class Twin {
    interface Calls {
        void on(JourneyRoads x);
    }

    interface Call {
        int on(JourneyRoads x);
    }

    private Twin() { }

    /** The call answers the refusal that is due, and all is as without it. */
    static void refused(String name, Calls ahead, Call call, int due) {
        JourneyRoads with = made(ahead);
        Check.due(name, call.on(with), due);
        compare(name + " is refused and changes nothing", made(ahead), with);
    }

    /** The call is not refused, and all is as without it. */
    static void tried(String name, Calls ahead, Call call) {
        JourneyRoads with = made(ahead);
        Check.holds(name + " is not refused", call.on(with) > Check.UNKNOWN);
        compare(name + " changes nothing", made(ahead), with);
    }

    static void same(String name, Calls one, Calls other) {
        compare(name, made(one), made(other));
    }

    static void differ(String name, Calls one, Calls other) {
        Check.holds(name, !everything(made(one)).equals(everything(made(other))));
    }

    private static JourneyRoads made(Calls ahead) {
        JourneyRoads x = new JourneyRoads();
        ahead.on(x);
        return x;
    }

    private static void compare(String name, JourneyRoads one, JourneyRoads other) {
        List<String> left = everything(one);
        List<String> right = everything(other);
        Check.due(name + ", answers asked", right.size(), left.size());
        for (int i = 0; i < left.size() && i < right.size(); i++) {
            if (!left.get(i).equals(right.get(i))) {
                Check.due(name + ": " + left.get(i) + ", but " + right.get(i), 1, 0);
                return;
            }
        }
        Check.due(name, 0, 0);
    }

    /** All that can be asked, in the end what spoils the object: undone, gone back, its text read. */
    private static List<String> everything(JourneyRoads x) {
        List<String> list = new ArrayList<>();
        put(list, "fault()", x.fault());
        for (int what = 0; what < 15; what++) {
            put(list, "told(" + what + ")", x.told(what));
        }
        land(list, x);
        seals(list, x);
        seed(list, x);
        for (int i = 0; i < 20 && x.told(14) > 0; i++) {
            put(list, "undo()", x.undo());
            journey(list, x);
        }
        for (int i = 0; i < 2; i++) {
            put(list, "goBack(" + i + ")", x.goBack(i));
            journey(list, x);
            seed(list, x);
        }
        put(list, "land()", x.land());
        put(list, "fault() of it", x.fault());
        land(list, x);
        return list;
    }

    private static void put(List<String> list, String call, int answer) {
        list.add(call + " " + answer);
    }

    private static void land(List<String> list, JourneyRoads x) {
        for (int t = 0; t < x.told(2); t++) {
            for (int what = 0; what < 5; what++) {
                put(list, "town(" + t + ", " + what + ")", x.town(t, what));
            }
        }
        for (int r = 0; r < x.told(3); r++) {
            for (int what = 0; what < 3; what++) {
                put(list, "road(" + r + ", " + what + ")", x.road(r, what));
            }
        }
    }

    private static void seals(List<String> list, JourneyRoads x) {
        put(list, "fits()", x.fits());
        put(list, "bought()", x.bought());
        put(list, "was(1)", x.was(1));
        put(list, "was(48)", x.was(48));
        put(list, "ask()", x.ask());
        put(list, "judge()", x.judge());
        put(list, "may(0)", x.may(0));
        put(list, "may(1)", x.may(1));
    }

    private static void seed(List<String> list, JourneyRoads x) {
        int seed = x.seed(0);
        put(list, "seed()", seed);
        x.seed(seed);
    }

    private static void journey(List<String> list, JourneyRoads x) {
        for (int what = 5; what <= 11; what++) {
            put(list, "told(" + what + ")", x.told(what));
        }
    }
}
