import java.util.Random;

/** Runs of drawn calls, asked of the class and of the model; always the same runs. */
public final class ModelTest {
    private static final int RUNS = 1800;
    // What an object answers behind its 512th call is free; the last are asked of told().
    private static final int CALLS = 512, LAST = 15;
    private final Random random;
    private final JourneyRoads real = new JourneyRoads();
    private final Model model = new Model();
    private final int run;
    private int calls;

    private ModelTest(int run) {
        this.run = run;
        this.random = new Random(run);
    }

    public static void main(String[] args) {
        int runs = args.length > 0 ? Integer.parseInt(args[0]) : RUNS;
        int first = args.length > 1 ? Integer.parseInt(args[1]) : 0;
        for (int run = first; run < first + runs; run++) {
            new ModelTest(run).play();
        }
        Check.end("ModelTest");
    }

    private void play() {
        if (random.nextInt(10) > 0) {
            land(landText());
        }
        // A call asks two answers at most, unless it tells a land.
        while (calls + 2 + LAST <= CALLS) {
            call();
        }
        for (int what = 0; what < LAST; what++) {
            due("told(" + what + ")", real.told(what), model.told(what));
        }
    }

    private void due(String call, int got, int want) {
        calls++;
        Check.due("run " + run + ": " + call, got, want);
    }

    /** From low to high, at times one beyond, seldom far beyond. */
    private int near(int low, int high) {
        int luck = random.nextInt(40);
        if (luck == 0) {
            return low - 1;
        }
        if (luck == 1) {
            return high + 1;
        }
        if (luck == 2 && random.nextInt(8) == 0) {
            return random.nextInt();
        }
        return high < low ? low : low + random.nextInt(high - low + 1);
    }

    private int someTown() {
        return near(0, Math.max(0, model.told(2) - 1));
    }

    private int someRoad() {
        return near(0, Math.max(0, model.told(3) - 1));
    }

    private String landText() {
        int towns = 1 + random.nextInt(8);
        StringBuilder text = new StringBuilder();
        text.append('l').append(1 + random.nextInt(4)).append(' ').append(random.nextInt(12)).append(';');
        for (int t = 0; t < towns; t++) {
            int miles = random.nextInt(5) == 0 ? 48 + random.nextInt(4) : random.nextInt(8) == 0 ? random.nextInt(50) : random.nextInt(1000);
            int work = random.nextInt(4) == 0 ? 1 << random.nextInt(12) : random.nextInt(4096);
            text.append('t').append(miles).append(' ').append(work).append(' ').append(random.nextInt(21)).append(';');
        }
        boolean[][] has = new boolean[8][8];
        int tries = towns > 1 ? random.nextInt(24) : 0;
        int roads = 0;
        for (int i = 0; i < tries && roads < 12; i++) {
            int a = random.nextInt(towns);
            int b = random.nextInt(towns);
            if (a != b && !has[a][b]) {
                has[a][b] = true;
                has[b][a] = true;
                roads++;
                text.append('r').append(a).append(' ').append(b).append(';');
            }
        }
        return text.toString();
    }

    /** A text with some letters changed, put in or left out. */
    private String spoilt(String text) {
        StringBuilder s = new StringBuilder(text);
        String letters = "ltr;  0123456789" + "x" + (char) 0 + (char) 255;
        int changes = 1 + random.nextInt(3);
        for (int i = 0; i < changes && s.length() > 0; i++) {
            int at = random.nextInt(s.length());
            char letter = letters.charAt(random.nextInt(letters.length()));
            switch (random.nextInt(4)) {
                case 0: s.setCharAt(at, letter); break;
                case 1: s.insert(at, letter); break;
                case 2: s.deleteCharAt(at); break;
                default: s.setLength(random.nextInt(3) == 0 ? at : s.length()); break;
            }
        }
        return s.toString();
    }

    private void land(String text) {
        if (calls + text.length() + 2 + LAST > CALLS) {
            calls++;
            return;
        }
        for (int i = 0; i < text.length(); i++) {
            due("feed", real.feed(text.charAt(i)), model.feed(text.charAt(i)));
        }
        due("land() of '" + text + "'", real.land(), model.land());
        due("fault() of '" + text + "'", real.fault(), model.fault());
    }

    private void call() {
        int kind = random.nextInt(100);
        if (kind < 45) {
            doSomething();
        } else if (kind < 70) {
            trySomething();
        } else if (kind < 90) {
            askSeals();
        } else if (kind < 98) {
            drawOrKeep();
        } else {
            tellLand();
        }
    }

    private void tellLand() {
        int luck = random.nextInt(12);
        if (luck < 6) {
            land(spoilt(landText()));
        } else if (luck == 6) {
            land(landText());
        } else if (luck == 7) {
            land("l1 0;" + "t50 1 1;".repeat(7 + random.nextInt(3)) + "r0 1;r0 2;r0 3;r0 4;r0 5;r0 6;r1 2;r1 3;r1 4;r1 5;r1 6;r2 3;r2 4;");
        } else if (luck == 8) {
            int letter = near(0, 255);
            due("feed(" + letter + ")", real.feed(letter), model.feed(letter));
        } else {
            due("fault()", real.fault(), model.fault());
        }
    }

    private void doSomething() {
        int a;
        boolean is;
        switch (random.nextInt(12)) {
            case 0: case 1: case 2:
                due("stay()", real.stay(), model.stay());
                break;
            case 3: case 4: case 5:
                a = someTown();
                due("walk(" + a + ")", real.walk(a), model.walk(a));
                break;
            case 6:
                a = someRoad();
                is = random.nextInt(3) == 0;
                due("war(" + a + ", " + is + ")", real.war(a, is), model.war(a, is));
                break;
            case 7:
                if (random.nextInt(4) == 0) {
                    due("home()", real.home(), model.home());
                }
                break;
            case 8: case 9:
                a = near(1, random.nextInt(4) == 0 ? 40 : 6);
                due("drift(" + a + ")", real.drift(a), model.drift(a));
                break;
            default:
                due("undo()", real.undo(), model.undo());
                break;
        }
        a = near(0, 14);
        due("told(" + a + ")", real.told(a), model.told(a));
    }

    private void trySomething() {
        int a;
        int b;
        switch (random.nextInt(11)) {
            case 0:
                a = near(0, 1);
                due("may(" + a + ")", real.may(a), model.may(a));
                break;
            case 1:
                a = someTown();
                due("reach(" + a + ")", real.reach(a), model.reach(a));
                break;
            case 2: case 3:
                a = near(1, 36);
                b = near(-1, Math.max(0, a - 1));
                due("best(" + a + ", " + b + ")", real.best(a, b), model.best(a, b));
                break;
            case 4: case 5:
                a = near(0, (1 << model.told(2)) - 1);
                due("seals(" + a + ")", real.seals(a), model.seals(a));
                break;
            case 6:
                a = someTown();
                due("two(" + a + ")", real.two(a), model.two(a));
                break;
            case 7:
                due("idle()", real.idle(), model.idle());
                due("stranded()", real.stranded(), model.stranded());
                break;
            case 8:
                a = near(0, 60);
                b = near(0, 100);
                due("snow(" + a + ", " + b + ")", real.snow(a, b), model.snow(a, b));
                break;
            case 9:
                a = someTown();
                b = near(0, 4);
                due("town(" + a + ", " + b + ")", real.town(a, b), model.town(a, b));
                break;
            default:
                a = someRoad();
                b = near(0, 2);
                due("road(" + a + ", " + b + ")", real.road(a, b), model.road(a, b));
                break;
        }
    }

    private void askSeals() {
        int a;
        int b;
        switch (random.nextInt(10)) {
            case 0: case 1:
                a = someTown();
                b = near(0, 47);
                due("seal(" + a + ", " + b + ")", real.seal(a, b), model.seal(a, b));
                break;
            case 2:
                due("fits()", real.fits(), model.fits());
                break;
            case 3: case 4:
                due("bought()", real.bought(), model.bought());
                break;
            case 5:
                a = near(0, 48);
                due("was(" + a + ")", real.was(a), model.was(a));
                break;
            case 6:
                due("ask()", real.ask(), model.ask());
                break;
            case 7:
                a = random.nextInt(3) > 0 ? Math.max(0, model.told(8)) : near(0, 9999);
                due("write(" + a + ")", real.write(a), model.write(a));
                break;
            case 8:
                if (random.nextInt(3) == 0) {
                    due("tear()", real.tear(), model.tear());
                }
                break;
            default:
                due("judge()", real.judge(), model.judge());
                break;
        }
    }

    private void drawOrKeep() {
        int a;
        switch (random.nextInt(4)) {
            case 0:
                a = random.nextInt();
                due("seed(" + a + ")", real.seed(a), model.seed(a));
                break;
            case 1:
                a = near(0, 1);
                due("keep(" + a + ")", real.keep(a), model.keep(a));
                break;
            default:
                a = near(0, 1);
                due("goBack(" + a + ")", real.goBack(a), model.goBack(a));
                break;
        }
    }
}
