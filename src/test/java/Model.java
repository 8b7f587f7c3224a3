import java.util.ArrayDeque;
import java.util.ArrayList;
import java.util.Deque;
import java.util.HashMap;
import java.util.HashSet;
import java.util.List;
import java.util.Map;
import java.util.Set;
import java.util.TreeSet;

/** The document told a second time, slow and plain, by other means than the class: every answer is looked up in lists. */
final class Model {
    static final int NONE = -1, UNKNOWN = -1000000001, OUTSIDE = -1000000002, NOT = -1000000003, FULL = -1000000004;

    record Town(int miles, int work, int learns) {
        boolean banned() {
            return miles < 50;
        }
    }

    record Road(int a, int b) { }

    record Land(int r, int s, List<Town> towns, List<Road> roads) { }

    record Now(int town, int months, int stayed, int learnt, Set<Integer> seals, Set<Integer> shut, boolean home) { }

    /** Where one stands in a month of what is TRIED. */
    record Spot(int town, int stayed) { }

    record Move(boolean stays, Spot to) { }

    record Told(int town, int month) { }

    record Token(char kind, int at, String figures) { }

    record Kept(Now now, long seed) { }

    private final StringBuilder text = new StringBuilder();
    private Land land = new Land(0, 0, List.of(), List.of());
    private Now now = begin();
    private int faultAt = NONE;
    private long seed;
    private final Deque<Now> past = new ArrayDeque<>();
    private final Map<Integer, Kept> images = new HashMap<>();
    private final List<Told> toldSeals = new ArrayList<>();
    private final List<Integer> book = new ArrayList<>();

    private static Now begin() {
        return new Now(0, 0, 0, 0, Set.of(), Set.of(), false);
    }

    int feed(int letter) {
        if (letter < 0 || letter > 255) return OUTSIDE;
        if (text.length() == 240) return FULL;
        text.append((char) letter);
        return text.length();
    }

    // ---- the text, word by word

    private List<Token> tokens() {
        List<Token> list = new ArrayList<>();
        String s = text.toString();
        int i = 0;
        while (i < s.length()) {
            int j = i;
            while (j < s.length() && "0123456789".indexOf(s.charAt(j)) >= 0) j++;
            if (j > i) {
                list.add(new Token('0', i, s.substring(i, j)));
                i = j;
            } else {
                if (s.charAt(i) != ' ') list.add(new Token(s.charAt(i), i, ""));
                i++;
            }
        }
        list.add(new Token('$', s.length(), ""));
        return list;
    }

    int land() {
        List<Town> towns = new ArrayList<>();
        List<Road> roads = new ArrayList<>();
        List<Integer> args = new ArrayList<>();
        int r = 0;
        int s = 0;
        char clause = ' ';
        boolean hasLimits = false;
        boolean realEnd = false;
        for (Token token : tokens()) {
            TreeSet<Integer> faults = new TreeSet<>();
            realEnd = token.kind == '$' && token.at == text.length();
            if (clause == ' ') {
                if (realEnd) break;
                if (token.kind != 'l' && token.kind != 't' && token.kind != 'r') faults.add(1);
                if (!hasLimits && token.kind != 'l') faults.add(1);
                if (token.kind == 'l' && hasLimits) faults.add(3);
                if (token.kind == 't' && towns.size() == 8) faults.add(3);
                if (token.kind == 'r' && roads.size() == 12) faults.add(3);
                clause = token.kind;
                args.clear();
            } else if (args.size() < (clause == 't' ? 3 : 2)) {
                if (token.kind != '0') faults.add(1);
                else {
                    long value = new java.math.BigInteger(token.figures).min(java.math.BigInteger.valueOf(1000000)).longValue();
                    int[] bounds = bounds(clause, args.size(), towns.size());
                    if (token.figures.length() > 4 || value < bounds[0] || value > bounds[1]) faults.add(2);
                    if (clause == 'r' && args.size() == 1) {
                        int a = args.get(0);
                        if (a == value) faults.add(4);
                        for (Road road : roads) {
                            if (road.a == a && road.b == value || road.b == a && road.a == value) faults.add(4);
                        }
                    }
                    args.add((int) value);
                }
            } else if (token.kind != ';') {
                faults.add(1);
            } else {
                if (clause == 'l') {
                    r = args.get(0);
                    s = args.get(1);
                    hasLimits = true;
                } else if (clause == 't') {
                    towns.add(new Town(args.get(0), args.get(1), args.get(2)));
                } else {
                    roads.add(new Road(args.get(0), args.get(1)));
                }
                clause = ' ';
            }
            if (!faults.isEmpty()) {
                faultAt = token.at;
                text.setLength(0);
                return -10 - faults.first();
            }
        }
        text.setLength(0);
        faultAt = NONE;
        land = new Land(r, s, towns, roads);
        now = begin();
        past.clear();
        images.clear();
        tear();
        return towns.size();
    }

    private static int[] bounds(char clause, int arg, int towns) {
        int[][] limits = {{1, 4}, {0, 11}};
        int[][] town = {{0, 999}, {0, 4095}, {0, 20}};
        return clause == 'l' ? limits[arg] : clause == 't' ? town[arg] : new int[] {0, towns - 1};
    }

    int fault() {
        return faultAt;
    }

    // ---- what is told

    private static int bits(Iterable<Integer> set) {
        int all = 0;
        for (int k : set) all |= 1 << k;
        return all;
    }

    int told(int what) {
        int[] all = {land.r, land.s, land.towns.size(), land.roads.size(), text.length(), now.months, now.town, now.stayed,
            now.learnt, bits(now.seals), bits(now.shut), now.home ? 1 : 0, toldSeals.size(), book.size(), past.size()};
        return what < 0 || what >= all.length ? OUTSIDE : all[what];
    }

    private boolean isTown(int t) {
        return t >= 0 && t < land.towns.size();
    }

    private boolean isRoad(int r) {
        return r >= 0 && r < land.roads.size();
    }

    int town(int t, int what) {
        if (!isTown(t)) return UNKNOWN;
        if (what < 0 || what > 4) return OUTSIDE;
        Town town = land.towns.get(t);
        Set<Integer> led = new TreeSet<>();
        for (Road road : land.roads) {
            if (road.a == t) led.add(road.b);
            if (road.b == t) led.add(road.a);
        }
        return new int[] {town.miles, town.work, town.learns, bits(led), town.banned() ? 1 : 0}[what];
    }

    int road(int r, int what) {
        if (!isRoad(r)) return UNKNOWN;
        if (what < 0 || what > 2) return OUTSIDE;
        return new int[] {land.roads.get(r).a, land.roads.get(r).b, now.shut.contains(r) ? 1 : 0}[what];
    }

    // ---- what is done

    private boolean hasWork(int t, int month) {
        int ofYear = (land.s + month) % 12;
        return (land.towns.get(t).work & (1 << ofYear)) != 0;
    }

    private Set<Integer> walks(int t, Set<Integer> shut) {
        Set<Integer> to = new TreeSet<>();
        for (int r = 0; r < land.roads.size(); r++) {
            Road road = land.roads.get(r);
            if (shut.contains(r)) continue;
            if (road.a == t && !land.towns.get(road.b).banned()) to.add(road.b);
            if (road.b == t && !land.towns.get(road.a).banned()) to.add(road.a);
        }
        return to;
    }

    private boolean idleMan() {
        return land.towns.isEmpty() || now.home;
    }

    private void remember(Now was) {
        past.addLast(was);
        if (past.size() > 20) past.removeFirst();
    }

    private static Set<Integer> with(Set<Integer> set, int k) {
        Set<Integer> more = new HashSet<>(set);
        more.add(k);
        return more;
    }

    private static Set<Integer> without(Set<Integer> set, int k) {
        Set<Integer> less = new HashSet<>(set);
        less.remove(k);
        return less;
    }

    private Now stayed(Now n) {
        boolean work = hasWork(n.town, n.months);
        int gain = work ? land.towns.get(n.town).learns : 0;
        return new Now(n.town, n.months + 1, n.stayed + 1, n.learnt + gain, work ? with(n.seals, n.town) : n.seals, n.shut, false);
    }

    private static Now walked(Now n, int t) {
        return new Now(t, n.months + 1, 0, n.learnt, n.seals, n.shut, false);
    }

    private static Now fought(Now n, int r, boolean is) {
        return new Now(n.town, n.months, n.stayed, n.learnt, n.seals, is ? with(n.shut, r) : without(n.shut, r), n.home);
    }

    int stay() {
        if (idleMan() || now.stayed >= land.r) return NOT;
        if (now.months > 9000) return FULL;
        Now was = now;
        remember(was);
        now = stayed(was);
        return now.learnt - was.learnt;
    }

    int walk(int t) {
        if (!isTown(t)) return UNKNOWN;
        if (now.home || !walks(now.town, now.shut).contains(t)) return NOT;
        if (now.months > 9000) return FULL;
        remember(now);
        now = walked(now, t);
        return now.months;
    }

    int war(int r, boolean is) {
        if (!isRoad(r)) return UNKNOWN;
        remember(now);
        boolean was = now.shut.contains(r);
        now = fought(now, r, is);
        return was ? 1 : 0;
    }

    int home() {
        if (idleMan() || now.months < 36) return NOT;
        remember(now);
        now = new Now(now.town, now.months, now.stayed, now.learnt, now.seals, now.shut, true);
        return now.learnt;
    }

    private int draw(int n) {
        seed = (seed * 1103515245L + 12345L) % (1L << 31);
        return (int) (seed / 65536 % n);
    }

    int drift(int n) {
        if (n < 1 || n > 40) return OUTSIDE;
        if (idleMan()) return NOT;
        if (now.months > 9000) return FULL;
        remember(now);
        for (int i = 0; i < n; i++) {
            if (draw(4) == 0 && !land.roads.isEmpty()) {
                int r = draw(land.roads.size());
                now = fought(now, r, !now.shut.contains(r));
            }
            int choice = draw(2);
            Set<Integer> to = walks(now.town, now.shut);
            if (choice == 0 && now.stayed < land.r) now = stayed(now);
            else if (!to.isEmpty()) now = walked(now, to.iterator().next());
        }
        return now.learnt;
    }

    int undo() {
        if (past.isEmpty()) return NOT;
        now = past.removeLast();
        return past.size();
    }

    // ---- tried

    private List<Move> moves(Spot spot, Set<Integer> shut) {
        List<Move> list = new ArrayList<>();
        if (spot.stayed < land.r) list.add(new Move(true, new Spot(spot.town, spot.stayed + 1)));
        for (int t : walks(spot.town, shut)) list.add(new Move(false, new Spot(t, 0)));
        return list;
    }

    private Spot here() {
        return new Spot(now.town, now.stayed);
    }

    int may(int what) {
        if (what < 0 || what > 1) return OUTSIDE;
        if (idleMan()) return NOT;
        return what == 0 ? bits(walks(now.town, now.shut)) : now.stayed < land.r ? 1 : 0;
    }

    int reach(int t) {
        if (!isTown(t)) return UNKNOWN;
        if (now.home) return NOT;
        Set<Spot> spots = Set.of(here());
        for (int months = 0; months <= 60; months++) {
            for (Spot spot : spots) if (spot.town == t) return months;
            spots = step(spots);
        }
        return NONE;
    }

    private Set<Spot> step(Set<Spot> spots) {
        Set<Spot> next = new HashSet<>();
        for (Spot spot : spots) for (Move move : moves(spot, now.shut)) next.add(move.to);
        return next;
    }

    record Way(int learnt, List<Integer> towns) { }

    record Ahead(int left, Spot spot) { }

    private Way bestWay(int left, int month, Spot spot, Map<Ahead, Way> known) {
        if (left == 0) return new Way(0, List.of());
        Ahead key = new Ahead(left, spot);
        if (known.containsKey(key)) return known.get(key);
        Way best = null;
        for (Move move : moves(spot, now.shut)) {
            Way rest = bestWay(left - 1, month + 1, move.to, known);
            if (rest == null) continue;
            int gain = move.stays && hasWork(spot.town, month) ? land.towns.get(spot.town).learns : 0;
            if (best == null || rest.learnt + gain > best.learnt) {
                List<Integer> towns = new ArrayList<>();
                towns.add(move.to.town);
                towns.addAll(rest.towns);
                best = new Way(rest.learnt + gain, towns);
            }
        }
        known.put(key, best);
        return best;
    }

    int best(int n, int i) {
        if (n < 1 || n > 36 || i < -1 || i >= n) return OUTSIDE;
        if (idleMan()) return NOT;
        Way way = bestWay(n, now.months, here(), new HashMap<>());
        return way == null ? NONE : i == NONE ? way.learnt : way.towns.get(i);
    }

    record Bearer(Spot spot, int seals) { }

    int seals(int set) {
        if (set < 0 || set >= 1 << land.towns.size()) return UNKNOWN;
        if (idleMan()) return NOT;
        Set<Bearer> bearers = Set.of(new Bearer(here(), bits(now.seals)));
        for (int months = 0; months <= 60; months++) {
            Set<Bearer> next = new HashSet<>();
            for (Bearer bearer : bearers) {
                if ((bearer.seals & set) == set) return months;
                for (Move move : moves(bearer.spot, now.shut)) {
                    boolean gets = move.stays && hasWork(bearer.spot.town, now.months + months);
                    next.add(new Bearer(move.to, gets ? bearer.seals | 1 << bearer.spot.town : bearer.seals));
                }
            }
            bearers = next;
        }
        return NONE;
    }

    record Pair(Spot one, Spot other) { }

    int two(int t) {
        if (!isTown(t)) return UNKNOWN;
        if (now.home) return NOT;
        Set<Pair> pairs = Set.of(new Pair(here(), new Spot(t, 0)));
        for (int months = 0; months <= 24; months++) {
            Set<Pair> next = new HashSet<>();
            for (Pair pair : pairs) {
                if (pair.one.town == pair.other.town) return months;
                for (Move a : moves(pair.one, now.shut)) {
                    for (Move b : moves(pair.other, now.shut)) next.add(new Pair(a.to, b.to));
                }
            }
            pairs = next;
        }
        return NONE;
    }

    int idle() {
        Set<Integer> months = new TreeSet<>();
        for (int m = 0; m < 12; m++) {
            boolean any = false;
            for (Town town : land.towns) any |= !town.banned() && (town.work >> m) % 2 == 1;
            if (!any) months.add(m);
        }
        return bits(months);
    }

    int stranded() {
        Set<Integer> towns = new TreeSet<>();
        for (int t = 0; t < land.towns.size(); t++) if (walks(t, now.shut).isEmpty()) towns.add(t);
        return bits(towns);
    }

    int snow(int n, int q) {
        if (n < 0 || n > 60 || q < 0 || q > 100) return OUTSIDE;
        java.math.BigInteger odds = java.math.BigInteger.valueOf(1000000000);
        for (int i = 0; i < n; i++) {
            odds = odds.multiply(java.math.BigInteger.valueOf(100 - q)).divide(java.math.BigInteger.valueOf(100));
        }
        return odds.intValue();
    }

    // ---- seals that are told

    int seal(int t, int month) {
        if (!isTown(t)) return UNKNOWN;
        if (month < 0 || month > 47) return OUTSIDE;
        if (toldSeals.size() == 8) return FULL;
        toldSeals.add(new Told(t, month));
        return toldSeals.size();
    }

    private boolean holds(Spot spot, Move move, int month, List<Told> list) {
        for (Told told : list) {
            if (told.month == month && !(move.stays && spot.town == told.town && hasWork(told.town, month))) return false;
        }
        return true;
    }

    record When(int month, Spot spot) { }

    /** Whether the end can be reached; all that lies on such a WAY is put into found. */
    private boolean ends(When when, List<Told> list, Map<When, Boolean> found) {
        if (found.containsKey(when)) return found.get(when);
        boolean any = when.month == 48;
        if (!any) {
            for (Move move : moves(when.spot, Set.of())) {
                if (holds(when.spot, move, when.month, list)) any |= ends(new When(when.month + 1, move.to), list, found);
            }
        }
        found.put(when, any);
        return any;
    }

    private Map<When, Boolean> ways(List<Told> list) {
        Map<When, Boolean> found = new HashMap<>();
        if (!land.towns.isEmpty()) ends(new When(0, new Spot(0, 0)), list, found);
        return found;
    }

    private boolean fit(List<Told> list) {
        return ways(list).getOrDefault(new When(0, new Spot(0, 0)), false);
    }

    int fits() {
        return fit(toldSeals) ? 1 : 0;
    }

    int bought() {
        if (fit(toldSeals)) return 0;
        Set<Integer> set = new TreeSet<>();
        for (int i = 0; i < toldSeals.size(); i++) {
            List<Told> others = new ArrayList<>(toldSeals);
            others.remove(i);
            if (fit(others)) set.add(i);
        }
        return bits(set);
    }

    private Set<Integer> townsAt(int month, Map<When, Boolean> found) {
        Set<Integer> towns = new TreeSet<>();
        found.forEach((when, good) -> {
            if (good && when.month == month) towns.add(when.spot.town);
        });
        return towns;
    }

    int was(int month) {
        return month < 0 || month > 48 ? OUTSIDE : bits(townsAt(month, ways(toldSeals)));
    }

    int ask() {
        Map<When, Boolean> found = ways(toldSeals);
        int best = NONE;
        for (int month = 48; month >= 1; month--) {
            int size = townsAt(month, found).size();
            if (size > 1 && (best == NONE || size >= townsAt(best, found).size())) best = month;
        }
        return best;
    }

    int write(int learnt) {
        if (learnt < 0 || learnt > 9999) return OUTSIDE;
        if (book.size() == 15) return FULL;
        book.add(learnt);
        return book.size();
    }

    int tear() {
        int had = toldSeals.size() + book.size();
        toldSeals.clear();
        book.clear();
        return had;
    }

    int judge() {
        for (int entry : book) if (entry != now.learnt) return book.indexOf(entry);
        return NONE;
    }

    // ---- draws, images

    int seed(int v) {
        if (v < 0) return OUTSIDE;
        int was = (int) seed;
        seed = v;
        return was;
    }

    int keep(int i) {
        if (i != 0 && i != 1) return UNKNOWN;
        images.put(i, new Kept(now, seed));
        past.clear();
        return 1;
    }

    int goBack(int i) {
        if (i != 0 && i != 1) return UNKNOWN;
        if (!images.containsKey(i)) return NOT;
        now = images.get(i).now;
        seed = images.get(i).seed;
        past.clear();
        return 1;
    }
}
