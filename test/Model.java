import java.math.BigInteger;
import java.util.ArrayDeque;
import java.util.ArrayList;
import java.util.HashMap;
import java.util.LinkedHashMap;
import java.util.List;
import java.util.Map;
import java.util.TreeSet;

/** The document once more, plainly and slowly, with the Java library: answers are compared with its own. */
final class Model {
    static final String RESERVED = " flight stop way umbrella flies ring back owner out rain wind ";

    /** A told flight. */
    static final class Told {
        int days;
        int grows;
        int room;
        final Map<String, String> sorts = new HashMap<>();
        final List<String> stops = new ArrayList<>();
        final List<String> umbrellas = new ArrayList<>();
        final List<String> owners = new ArrayList<>();
        final List<Integer> stopSorts = new ArrayList<>();
        final Map<List<Integer>, int[]> ways = new LinkedHashMap<>();
        final List<int[]> kindStrongHome = new ArrayList<>();
        final Map<Integer, Integer> flyDay = new HashMap<>();
        final Map<Integer, List<Integer>> flyStops = new HashMap<>();
        final List<int[]> rings = new ArrayList<>();
        final Map<Integer, Integer> backs = new LinkedHashMap<>();
        final List<Integer> ownerHalls = new ArrayList<>();
        final List<int[]> outs = new ArrayList<>();
        final TreeSet<Integer> rains = new TreeSet<>();
        final List<int[]> winds = new ArrayList<>();
    }

    /** How all is NOW; never changed, but made anew. */
    static final class State {
        final boolean[] kept = new boolean[6];
        final int[] strong = new int[6];
        final int[] day = new int[6];
        final List<List<Integer>> routes = new ArrayList<>();

        State copy() {
            State s = new State();
            for (int u = 0; u < 6; u++) {
                s.kept[u] = kept[u];
                s.strong[u] = strong[u];
                s.day[u] = day[u];
            }
            s.routes.addAll(routes);
            return s;
        }
    }

    /** A year that has passed. */
    static final class Passed {
        int[][] at;
        int[][] strength;
        int[][] flock;
        int[] falls;
        int arrived;
        long seed;
    }

    Told told = new Told();
    State now = new State();
    final ArrayDeque<State> past = new ArrayDeque<>();
    final List<State> marks = new ArrayList<>();
    String tape = "";
    int trouble;
    int fault;
    int place = -1;
    List<List<List<Integer>>> waysOut = new ArrayList<>();
    private Passed year;

    // ---- the text

    private static final class Token {
        String text;
        int place;
        char sort;
    }

    private static List<Token> tokens(String text) {
        List<Token> all = new ArrayList<>();
        int i = 0;
        while (i < text.length()) {
            char c = text.charAt(i);
            if (c == ' ') {
                i++;
                continue;
            }
            int j = i + 1;
            boolean letter = c >= 'a' && c <= 'z';
            boolean digit = c >= '0' && c <= '9';
            while (j < text.length() && (letter && text.charAt(j) >= 'a' && text.charAt(j) <= 'z'
                || digit && text.charAt(j) >= '0' && text.charAt(j) <= '9')) {
                j++;
            }
            Token t = new Token();
            t.text = text.substring(i, j);
            t.place = i;
            t.sort = letter && j - i <= 8 ? 'w' : digit && j - i <= 3 ? 'n' : c == ';' || c == ',' ? c : '!';
            all.add(t);
            i = j;
        }
        Token end = new Token();
        end.text = "";
        end.place = text.length();
        end.sort = 'e';
        all.add(end);
        return all;
    }

    /** Patterns: a word stands for itself, capitals and numbers for what must stand there. */
    private static String pattern(String word) {
        switch (word) {
            case "flight": return "days 2-20 grows 0-99 room 1-999";
            case "stop": return "NEWSTOP SORT";
            case "way": return "STOP SECOND wind 0-9 loss 0-50";
            case "umbrella": return "NEWUMBRELLA KIND strong 0-30 home HALL";
            case "flies": return "FLIER DAY FLOWN";
            case "ring": return "UMBRELLA STOP DAY";
            case "back": return "BACKER HALL";
            case "owner": return "NEWOWNER HALL";
            case "out": return "OWNER DAY to LATER";
            case "rain": return "RAINDAY";
            case "wind": return "0-100 good 0-99 bad 0-99";
            default: return null;
        }
    }

    private static int bound(Told t, String word) {
        switch (word) {
            case "stop": return t.stops.size() < 8 ? 1 : 0;
            case "way": return t.ways.size() < 14 ? 1 : 0;
            case "umbrella": return t.umbrellas.size() < 6 ? 1 : 0;
            case "ring": return t.rings.size() < 8 ? 1 : 0;
            case "owner": return t.owners.size() < 6 ? 1 : 0;
            case "out": return t.outs.size() < 10 ? 1 : 0;
            case "rain": return t.rains.size() < 10 ? 1 : 0;
            case "wind": return t.winds.size() < 6 ? 1 : 0;
            default: return 1;
        }
    }

    /** The fault of a text (0: none) and its place; what it tells comes into t. */
    static int[] read(String text, Told t) {
        List<Token> all = tokens(text);
        int i = 0;
        while (true) {
            Token w = all.get(i);
            if (w.sort != 'w' || pattern(w.text) == null) {
                return new int[] {1, w.place};
            }
            if (t.days == 0 && !w.text.equals("flight")) {
                return new int[] {6, w.place};
            }
            if (t.days > 0 && w.text.equals("flight")) {
                return new int[] {3, w.place};
            }
            if (bound(t, w.text) == 0) {
                return new int[] {5, w.place};
            }
            i++;
            List<Integer> values = new ArrayList<>();
            for (String element : pattern(w.text).split(" ")) {
                if (element.equals("FLOWN")) {
                    int from = t.kindStrongHome.get(values.get(0))[2];
                    while (true) {
                        int f = fault(t, "STOP", all.get(i), values);
                        if (f == 0 && values.size() == 8) {
                            f = 5;
                        }
                        if (f == 0 && !t.ways.containsKey(List.of(from, values.get(values.size() - 1)))) {
                            f = 7;
                        }
                        if (f != 0) {
                            return new int[] {f, all.get(i).place};
                        }
                        from = values.get(values.size() - 1);
                        i++;
                        if (all.get(i).sort != ',') {
                            break;
                        }
                        i++;
                    }
                    continue;
                }
                int f = fault(t, element, all.get(i), values);
                if (f != 0) {
                    return new int[] {f, all.get(i).place};
                }
                i++;
            }
            store(t, w.text, values);
            if (all.get(i).sort == 'e') {
                return t.umbrellas.isEmpty() ? new int[] {6, all.get(i).place} : new int[] {0, -1};
            }
            if (all.get(i).sort != ';') {
                return new int[] {1, all.get(i).place};
            }
            i++;
        }
    }

    /** The least fault of one token where an element must stand; its value is added. */
    private static int fault(Told t, String element, Token token, List<Integer> values) {
        if (Character.isLowerCase(element.charAt(0))) {
            return token.text.equals(element) ? 0 : 1;
        }
        if (Character.isDigit(element.charAt(0)) || element.equals("DAY") || element.equals("LATER")
            || element.equals("RAINDAY")) {
            if (token.sort != 'n') {
                return 1;
            }
            int n = Integer.parseInt(token.text);
            int least = 0;
            int most = t.days - 1;
            if (Character.isDigit(element.charAt(0))) {
                least = Integer.parseInt(element.split("-")[0]);
                most = Integer.parseInt(element.split("-")[1]);
            } else if (element.equals("LATER")) {
                least = values.get(1);
            } else if (element.equals("RAINDAY") && t.rains.contains(n)) {
                return 3;
            }
            values.add(n);
            return n < least || n > most ? 4 : 0;
        }
        if (element.equals("SORT") || element.equals("KIND")) {
            List<String> these = element.equals("SORT") ? List.of("hall", "strait", "south")
                : List.of("black", "golf", "lady", "folding", "miser");
            values.add(these.indexOf(token.text));
            return these.contains(token.text) ? 0 : 1;
        }
        if (token.sort != 'w' || RESERVED.contains(" " + token.text + " ")) {
            return 1;
        }
        if (element.startsWith("NEW")) {
            if (t.sorts.containsKey(token.text)) {
                return 3;
            }
            t.sorts.put(token.text, element.substring(3));
            (element.equals("NEWSTOP") ? t.stops : element.equals("NEWUMBRELLA") ? t.umbrellas : t.owners)
                .add(token.text);
            return 0;
        }
        boolean flier = element.equals("FLIER");
        boolean backer = element.equals("BACKER");
        boolean aStop = element.equals("STOP") || element.equals("SECOND") || element.equals("HALL");
        String sort = aStop ? "STOP" : flier || backer ? "UMBRELLA" : element;
        if (!sort.equals(t.sorts.get(token.text))) {
            return 2;
        }
        int n = (aStop ? t.stops : sort.equals("UMBRELLA") ? t.umbrellas : t.owners).indexOf(token.text);
        if (element.equals("HALL") && t.stopSorts.get(n) != 0) {
            return 2;
        }
        if (element.equals("SECOND") && (values.get(0) == n || t.ways.containsKey(List.of(values.get(0), n)))) {
            return 3;
        }
        if (flier && t.flyDay.containsKey(n) || backer && t.backs.containsKey(n)) {
            return 3;
        }
        values.add(n);
        return 0;
    }

    private static void store(Told t, String word, List<Integer> v) {
        switch (word) {
            case "flight":
                t.days = v.get(0);
                t.grows = v.get(1);
                t.room = v.get(2);
                break;
            case "stop":
                t.stopSorts.add(v.get(0));
                break;
            case "way":
                t.ways.put(List.of(v.get(0), v.get(1)), new int[] {v.get(2), v.get(3)});
                break;
            case "umbrella":
                t.kindStrongHome.add(new int[] {v.get(0), v.get(1), v.get(2)});
                break;
            case "flies":
                t.flyDay.put(v.get(0), v.get(1));
                t.flyStops.put(v.get(0), new ArrayList<>(v.subList(2, v.size())));
                break;
            case "ring":
                t.rings.add(new int[] {v.get(0), v.get(1), v.get(2)});
                break;
            case "back":
                t.backs.put(v.get(0), v.get(1));
                break;
            case "owner":
                t.ownerHalls.add(v.get(0));
                break;
            case "out":
                t.outs.add(new int[] {v.get(0), v.get(1), v.get(2)});
                break;
            case "rain":
                t.rains.add(v.get(0));
                break;
            default:
                t.winds.add(new int[] {v.get(0), v.get(1), v.get(2)});
                break;
        }
    }

    // ---- what is found out

    private int[] umbrella(int u) {
        return told.kindStrongHome.get(u);
    }

    int umbrellas() {
        return told.umbrellas.size();
    }

    private Passed pass(State s, long seed) {
        int all = umbrellas();
        Passed p = new Passed();
        p.at = new int[all][told.days];
        p.strength = new int[all][told.days];
        p.flock = new int[all][told.days];
        p.falls = new int[all];
        p.seed = seed;
        int[] spot = new int[all];
        int[] left = new int[all];
        for (int u = 0; u < all; u++) {
            p.falls[u] = -2;
            spot[u] = umbrella(u)[2];
            left[u] = s.strong[u];
        }
        for (int d = 0; d < told.days; d++) {
            Map<List<Integer>, List<Integer>> flocks = new HashMap<>();
            List<List<Integer>> taken = new ArrayList<>();
            for (int u = 0; u < all; u++) {
                int step = d - s.day[u];
                boolean moves = umbrella(u)[0] != 4 && !s.kept[u] && s.day[u] >= 0 && spot[u] >= 0
                    && step >= 0 && step < s.routes.get(u).size();
                taken.add(moves ? List.of(spot[u], s.routes.get(u).get(step)) : null);
                if (moves) {
                    flocks.computeIfAbsent(taken.get(u), k -> new ArrayList<>()).add(u);
                }
            }
            for (int u = 0; u < all; u++) {
                if (taken.get(u) != null) {
                    List<Integer> flock = flocks.get(taken.get(u));
                    int cost = told.ways.get(taken.get(u))[0];
                    boolean golf = false;
                    for (int v : flock) {
                        p.flock[u][d] += 1 << v;
                        golf |= v != u && umbrella(v)[0] == 1;
                    }
                    cost = Math.max(0, cost - (golf ? 2 : flock.size() > 1 ? 1 : 0) + (umbrella(u)[0] == 3 ? 1 : 0));
                    if (cost > left[u]) {
                        spot[u] = -2;
                        p.falls[u] = d;
                    } else {
                        left[u] -= cost;
                        spot[u] = taken.get(u).get(1);
                        if (seed >= 0) {
                            p.seed = (75 * p.seed + 74) % 65537;
                            if (p.seed % 100 < loss(u, taken.get(u))) {
                                spot[u] = -2;
                            }
                        }
                    }
                }
                p.at[u][d] = spot[u];
                p.strength[u][d] = left[u];
            }
        }
        for (int u = 0; u < all; u++) {
            if (spot[u] >= 0 && told.stopSorts.get(spot[u]) == 2) {
                p.arrived |= 1 << u;
            }
        }
        return p;
    }

    private int loss(int u, List<Integer> way) {
        return told.ways.get(way)[1] * (umbrella(u)[0] == 2 ? 2 : 1);
    }

    private void findWays() {
        waysOut = new ArrayList<>();
        for (int u = 0; u < umbrellas(); u++) {
            List<List<Integer>> found = new ArrayList<>();
            ArrayDeque<List<Integer>> open = new ArrayDeque<>();
            open.add(List.of(umbrella(u)[2]));
            while (!open.isEmpty()) {
                List<Integer> row = open.poll();
                int last = row.get(row.size() - 1);
                if (row.size() > 1 && told.stopSorts.get(last) == 2) {
                    found.add(row);
                }
                for (List<Integer> way : told.ways.keySet()) {
                    if (way.get(0) == last && !row.contains(way.get(1)) && row.size() <= 5) {
                        List<Integer> longer = new ArrayList<>(row);
                        longer.add(way.get(1));
                        open.add(longer);
                    }
                }
            }
            found.sort(Model::order);
            waysOut.add(found);
        }
    }

    private static int order(List<Integer> a, List<Integer> b) {
        for (int i = 0; i < Math.min(a.size(), b.size()); i++) {
            if (!a.get(i).equals(b.get(i))) {
                return a.get(i) - b.get(i);
            }
        }
        return a.size() - b.size();
    }

    private BigInteger[] chanceOf(int u, List<Integer> row) {
        BigInteger up = BigInteger.ONE;
        BigInteger low = BigInteger.ONE;
        for (int i = 1; i < row.size(); i++) {
            up = up.multiply(BigInteger.valueOf(100 - loss(u, List.of(row.get(i - 1), row.get(i)))));
            low = low.multiply(BigInteger.valueOf(100));
        }
        return lowest(up, low);
    }

    private static BigInteger[] lowest(BigInteger up, BigInteger low) {
        BigInteger g = up.gcd(low);
        return new BigInteger[] {up.divide(g), low.divide(g)};
    }

    private static int compare(BigInteger[] a, BigInteger[] b) {
        return a[0].multiply(b[1]).compareTo(b[0].multiply(a[1]));
    }

    private static int placeIf(List<Integer> row, int setsOut, int day) {
        return day < setsOut ? row.get(0) : row.get(Math.min(row.size() - 1, day - setsOut + 1));
    }

    /** Days and numbers of ways out. */
    private List<int[]> fitsOf(int u) {
        List<int[]> all = new ArrayList<>();
        for (int d = 0; d < told.days; d++) {
            for (int k = 0; k < waysOut.get(u).size(); k++) {
                boolean right = true;
                for (int[] ring : told.rings) {
                    right &= ring[0] != u || placeIf(waysOut.get(u).get(k), d, ring[2]) == ring[1];
                }
                if (right) {
                    all.add(new int[] {d, k});
                }
            }
        }
        return all;
    }

    private int[] bestLook(int u) {
        List<int[]> all = fitsOf(u);
        int[] best = {-1, 1000000};
        for (int s = 0; s < told.stops.size(); s++) {
            for (int d = 0; d < told.days; d++) {
                int there = 0;
                for (int[] fit : all) {
                    there += placeIf(waysOut.get(u).get(fit[1]), fit[0], d) == s ? 1 : 0;
                }
                int most = Math.max(there, all.size() - there);
                if (most < best[1]) {
                    best = new int[] {100 * s + d, most};
                }
            }
        }
        return best;
    }

    private boolean out(int o, int day) {
        boolean is = false;
        for (int[] out : told.outs) {
            is |= out[0] == o && day >= out[1] && day <= out[2];
        }
        return is;
    }

    private int wetOn(int day) {
        int bits = 0;
        for (int hall = 0; told.rains.contains(day) && hall < told.stops.size(); hall++) {
            int kept = 0;
            for (int u = 0; u < umbrellas(); u++) {
                kept += umbrella(u)[2] == hall && (umbrella(u)[0] == 4 || now.kept[u]) ? 1 : 0;
            }
            for (int o = 0; o < told.owners.size(); o++) {
                if (told.ownerHalls.get(o) == hall && out(o, day)) {
                    if (kept > 0) {
                        kept--;
                    } else {
                        bits |= 1 << o;
                    }
                }
            }
        }
        return bits;
    }

    private int pinsOf(int hall) {
        int most = 0;
        for (int day : told.rains) {
            int n = 0;
            for (int o = 0; o < told.owners.size(); o++) {
                n += told.ownerHalls.get(o) == hall && out(o, day) ? 1 : 0;
            }
            most = Math.max(most, n);
        }
        return most;
    }

    /** Exchange by exchange, from how they are back. */
    private int exchanges() {
        List<Integer> start = new ArrayList<>();
        List<Integer> goal = new ArrayList<>();
        for (Map.Entry<Integer, Integer> e : told.backs.entrySet()) {
            start.add(e.getValue());
            goal.add(umbrella(e.getKey())[2]);
        }
        Map<List<Integer>, Integer> steps = new HashMap<>();
        ArrayDeque<List<Integer>> open = new ArrayDeque<>();
        steps.put(start, 0);
        open.add(start);
        while (!open.isEmpty()) {
            List<Integer> at = open.poll();
            if (at.equals(goal)) {
                return steps.get(at);
            }
            for (int i = 0; i < at.size(); i++) {
                for (int j = i + 1; j < at.size(); j++) {
                    List<Integer> next = new ArrayList<>(at);
                    next.set(i, at.get(j));
                    next.set(j, at.get(i));
                    if (!steps.containsKey(next)) {
                        steps.put(next, steps.get(at) + 1);
                        open.add(next);
                    }
                }
            }
        }
        return -2;
    }

    private BigInteger[] worth(int day) {
        int[] w = told.winds.get(day);
        BigInteger[] good = {BigInteger.valueOf(w[1]), BigInteger.ONE};
        BigInteger[] bad = {BigInteger.valueOf(w[2]), BigInteger.ONE};
        if (day + 1 < told.winds.size()) {
            BigInteger[] later = worth(day + 1);
            good = compare(later, good) > 0 ? later : good;
            bad = compare(later, bad) > 0 ? later : bad;
        }
        BigInteger up = good[0].multiply(bad[1]).multiply(BigInteger.valueOf(w[0]))
            .add(bad[0].multiply(good[1]).multiply(BigInteger.valueOf(100 - w[0])));
        return lowest(up, good[1].multiply(bad[1]).multiply(BigInteger.valueOf(100)));
    }

    private int herdBehind(int n, int t, int y) {
        int left = n;
        for (int i = 0; i < y; i++) {
            left = left < t ? 0 : left - t;
            left = Math.min(told.room, left * (100 + told.grows) / 100);
        }
        return left;
    }

    private Passed year() {
        if (year == null) {
            year = pass(now, -1);
        }
        return year;
    }

    // ---- calls

    private boolean none() {
        return told.days == 0;
    }

    private long no(int why) {
        trouble = why;
        return -1;
    }

    private long yes(long answer) {
        trouble = 0;
        return answer;
    }

    private boolean noU(int u) {
        return u < 0 || u >= umbrellas();
    }

    private boolean noS(int s) {
        return s < 0 || s >= told.stops.size();
    }

    private boolean noD(int d) {
        return d < 0 || d >= told.days;
    }

    private void act(State next) {
        past.addLast(now);
        if (past.size() > 16) {
            past.removeFirst();
        }
        now = next;
        year = null;
    }

    long flight(int n) {
        if (n < 0 || n > tape.length()) {
            return no(2);
        }
        Told t = new Told();
        int[] result = read(tape.substring(0, n), t);
        tape = "";
        fault = result[0];
        place = result[1];
        if (fault != 0) {
            return no(4);
        }
        told = t;
        past.clear();
        marks.clear();
        now = new State();
        year = null;
        for (int u = 0; u < umbrellas(); u++) {
            now.strong[u] = umbrella(u)[1];
            now.day[u] = t.flyDay.getOrDefault(u, -2);
            now.routes.add(t.flyStops.getOrDefault(u, List.of()));
        }
        findWays();
        return yes(umbrellas());
    }

    /** The call of a number (its place in the document's face, from 4 on), with up to three numbers. */
    long call(int which, int a, int b, int c) {
        if (which <= 9) {
            return callTold(which, a, b, c);
        }
        if (which <= 18) {
            return callYear(which, a, b);
        }
        if (which <= 30) {
            return which <= 24 ? callOut(which, a, b, c) : callFits(which, a);
        }
        return which <= 41 ? callRest(which, a, b, c) : callAct(which, a, b, c);
    }

    private long callTold(int which, int a, int b, int c) {
        switch (which) {
            case 4:
                return fault;
            case 5:
                return trouble == 4 ? place : -1;
            case 6:
                return noS(a) ? no(1) : yes(told.stopSorts.get(a));
            case 7:
                if (noS(a) || noS(b) || c < 0 || c > 1) {
                    return no(1);
                }
                return yes(told.ways.containsKey(List.of(a, b)) ? told.ways.get(List.of(a, b))[c] : -2);
            case 8:
                if (noU(a) || b < 0 || b > 5) {
                    return no(1);
                }
                return yes(new int[] {umbrella(a)[0], now.strong[a], umbrella(a)[2], now.day[a],
                    now.routes.get(a).size(), now.kept[a] ? 1 : 0}[b]);
            default:
                return noU(a) || b < 0 || b >= now.routes.get(a).size() ? no(1) : yes(now.routes.get(a).get(b));
        }
    }

    private long callYear(int which, int a, int b) {
        if (which <= 12) {
            if (noU(a)) {
                return no(1);
            }
            if (noD(b)) {
                return no(2);
            }
            return yes((which == 10 ? year().at : which == 11 ? year().strength : year().flock)[a][b]);
        }
        if (which == 13) {
            return noU(a) ? no(1) : yes(year().falls[a]);
        }
        if (which == 15) {
            if (noS(a)) {
                return no(1);
            }
            if (noD(b)) {
                return no(2);
            }
            int n = 0;
            for (int[] row : year().at) {
                n += row[b] == a ? 1 : 0;
            }
            return yes(n);
        }
        if (none()) {
            return no(1);
        }
        switch (which) {
            case 14:
                return yes(year().arrived);
            case 16:
                int most = 0;
                for (int[] row : year().flock) {
                    for (int f : row) {
                        most = Math.max(most, Integer.bitCount(f));
                    }
                }
                return yes(most);
            case 17:
                int best = -2;
                for (int u = umbrellas() - 1; u >= 0; u--) {
                    int left = year().strength[u][told.days - 1];
                    if ((year().arrived >> u & 1) == 1 && (best < 0 || left >= year().strength[best][told.days - 1])) {
                        best = u;
                    }
                }
                return yes(best);
            default:
                for (int r = 0; r < told.rings.size(); r++) {
                    if (year().at[told.rings.get(r)[0]][told.rings.get(r)[2]] != told.rings.get(r)[1]) {
                        return yes(r);
                    }
                }
                return yes(-2);
        }
    }

    private long callOut(int which, int a, int b, int c) {
        if (noU(a)) {
            return no(1);
        }
        List<List<Integer>> rows = waysOut.get(a);
        switch (which) {
            case 19:
                return yes(rows.size());
            case 20:
                return b < 0 || b >= rows.size() || c < 0 || c >= rows.get(b).size() ? no(1) : yes(rows.get(b).get(c));
            case 21:
                return b < 0 || b >= rows.size() ? no(1) : yes(chanceOf(a, rows.get(b))[c == 1 ? 1 : 0].longValueExact());
            case 22:
                int best = -1;
                for (int k = 0; k < rows.size(); k++) {
                    if (best < 0 || compare(chanceOf(a, rows.get(k)), chanceOf(a, rows.get(best))) > 0) {
                        best = k;
                    }
                }
                return best < 0 ? no(6) : yes(best);
            default:
                if (now.day[a] < 0) {
                    return no(6);
                }
                int most = -1;
                int day = -1;
                for (int d = 0; d < told.days; d++) {
                    State s = now.copy();
                    s.day[a] = d;
                    int n = Integer.bitCount(pass(s, -1).arrived);
                    if (n > most) {
                        most = n;
                        day = d;
                    }
                }
                return yes(which == 23 ? day : most);
        }
    }

    private long callFits(int which, int a) {
        if (noU(a)) {
            return no(1);
        }
        List<int[]> all = fitsOf(a);
        int some = 0;
        int every = all.isEmpty() ? 0 : -1;
        int[] best = null;
        for (int[] fit : all) {
            int bits = 0;
            List<Integer> row = waysOut.get(a).get(fit[1]);
            for (int s : row.subList(1, row.size())) {
                bits |= 1 << s;
            }
            some |= bits;
            every &= bits;
            if (best == null || compare(chanceOf(a, row), chanceOf(a, waysOut.get(a).get(best[1]))) > 0) {
                best = fit;
            }
        }
        switch (which) {
            case 25:
                return yes(all.size());
            case 26:
                return yes(some);
            case 27:
                return yes(every);
            case 28:
                return best == null ? no(6) : yes(1000 * best[0] + best[1]);
            default:
                return best == null ? no(6) : yes(bestLook(a)[which - 29]);
        }
    }

    private long callRest(int which, int a, int b, int c) {
        boolean noHall = noS(a) || told.stopSorts.get(a) != 0;
        if (which == 32) {
            int n = 0;
            for (int d = 0; d < told.days && a >= 0; d++) {
                n += wetOn(d) >> a & 1;
            }
            return a < 0 || a >= told.owners.size() ? no(1) : yes(n);
        }
        if (which == 33) {
            return noHall ? no(1) : yes(pinsOf(a));
        }
        if (which == 34) {
            int n = 0;
            for (int[] u : told.kindStrongHome) {
                n += u[2] == a ? 1 : 0;
            }
            return noHall ? no(1) - 99 : yes(n - pinsOf(a));
        }
        if (none()) {
            return no(1);
        }
        switch (which) {
            case 31:
                return noD(a) ? no(2) : yes(wetOn(a));
            case 35:
                return yes(exchanges());
            case 36:
                return told.winds.isEmpty() ? no(6) : yes(worth(0)[a == 1 ? 1 : 0].longValueExact());
            case 37:
                if (told.winds.isEmpty()) {
                    return no(6);
                }
                if (a < 0 || a >= told.winds.size()) {
                    return no(1);
                }
                BigInteger[] mine = {BigInteger.valueOf(told.winds.get(a)[b == 1 ? 1 : 2]), BigInteger.ONE};
                return yes(a == told.winds.size() - 1 || compare(mine, worth(a + 1)) >= 0 ? 1 : 0);
            case 38:
                boolean bad = a < 0 || a > 999 || b < 0 || b > 999 || c < 0 || c > 200;
                return bad ? no(2) : yes(herdBehind(a, b, c));
            case 39:
                if (a < 0 || a > 999 || b < 0 || b > 200) {
                    return no(2);
                }
                for (int t = 999; t >= 0; t--) {
                    if (herdBehind(a, t, b) >= a) {
                        return yes(t);
                    }
                }
                return yes(-2);
            case 40:
                return a < 0 || a > 65536 ? no(2) : yes(pass(now, a).arrived);
            default:
                if (a < 0 || a > 65536 || b < 1 || b > 50) {
                    return no(2);
                }
                long seed = a;
                int n = 0;
                for (int i = 0; i < b; i++) {
                    Passed p = pass(now, seed);
                    seed = p.seed;
                    n += Integer.bitCount(p.arrived);
                }
                return yes(n);
        }
    }

    /** What answers true or false answers 1 or 0 here. */
    private long callAct(int which, int a, int b, int c) {
        switch (which) {
            case 42:
                if (noU(a)) {
                    return no(1) + 1;
                }
                if (now.kept[a] == (b == 1)) {
                    return no(5) + 1;
                }
                State kept = now.copy();
                kept.kept[a] = b == 1;
                act(kept);
                return yes(1);
            case 43:
                if (noU(a) || b < 0 || b >= waysOut.get(a).size()) {
                    return no(1) + 1;
                }
                if (noD(c)) {
                    return no(2) + 1;
                }
                List<Integer> row = waysOut.get(a).get(b).subList(1, waysOut.get(a).get(b).size());
                if (now.day[a] == c && now.routes.get(a).equals(row)) {
                    return no(5) + 1;
                }
                State sent = now.copy();
                sent.day[a] = c;
                sent.routes.set(a, row);
                act(sent);
                return yes(1);
            case 44:
                if (noU(a)) {
                    return no(1);
                }
                if (now.strong[a] == 30) {
                    return no(5);
                }
                State mended = now.copy();
                mended.strong[a]++;
                act(mended);
                return yes(mended.strong[a]);
            case 45:
                if (past.isEmpty()) {
                    return no(6) + 1;
                }
                now = past.removeLast();
                year = null;
                return yes(1);
            case 46:
                if (none()) {
                    return no(1);
                }
                if (marks.size() == 3) {
                    return no(3);
                }
                marks.add(now);
                return yes(marks.size() - 1);
            case 47:
                if (a < 0 || a >= marks.size()) {
                    return no(1) + 1;
                }
                now = marks.get(a);
                past.clear();
                year = null;
                return yes(1);
            case 48:
                List<Integer> fallen = new ArrayList<>();
                for (int u = 0; u < umbrellas(); u++) {
                    if (year().falls[u] >= 0) {
                        fallen.add(u);
                    }
                }
                return a < 0 || a >= fallen.size() ? -3 : fallen.get(a);
            case 49:
                int[] sizes = {told.days, told.grows, told.room, told.stops.size(), told.ways.size(), umbrellas(),
                    told.rings.size(), told.backs.size(), told.owners.size(), told.outs.size(), told.rains.size(),
                    told.winds.size(), past.size(), marks.size(), tape.length()};
                return a < 0 || a >= sizes.length ? -1 : sizes[a];
            default:
                return trouble;
        }
    }
}
