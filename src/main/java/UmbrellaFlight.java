import java.util.NoSuchElementException;

/** Umbrellas that fly south, as ../shared/DOC.md tells: a flight told as a text, and what follows from it. */
public final class UmbrellaFlight {
    public static final int NONE = -1;

    /** What is answered for something that could be, but isn't. */
    private static final int WITHOUT = -2;
    private static final int NO_SPARE = -100;

    private static final int NONE_SUCH = 1;
    private static final int A_NUMBER = 2;
    private static final int NO_ROOM = 3;
    private static final int A_FAULT = 4;
    private static final int NOT_SO = 5;
    private static final int THERE_IS_NONE = 6;

    private static final int TAPE_BYTES = 1100;
    private static final int FED_BYTES = 20;
    private static final int MOST_DAYS = 20;
    private static final int MOST_STOPS = 8;
    private static final int MOST_WAYS = 14;
    private static final int MOST_UMBRELLAS = 6;
    private static final int MOST_STOPS_FLOWN = 5;
    private static final int MOST_RINGS = 8;
    private static final int MOST_OWNERS = 6;
    private static final int MOST_OUTS = 10;
    private static final int MOST_RAINS = 10;
    private static final int MOST_WINDS = 6;
    private static final int MOST_STRONG = 30;
    private static final int MOST_HERD = 999;
    private static final int MOST_YEARS = 200;
    private static final int MOST_SEED = 65536;
    private static final int MOST_SEASONS = 50;

    private static final int HALL = 0;
    private static final int STRAIT = 1;
    private static final int SOUTH = 2;

    private static final int BLACK = 0;
    private static final int GOLF = 1;
    private static final int LADY = 2;
    private static final int FOLDING = 3;
    private static final int MISER = 4;

    /** The numbers of size(); those from STOPS on are the sorts of lines that are counted, too. */
    private static final int DAYS = 0;
    private static final int GROWS = 1;
    private static final int ROOM = 2;
    private static final int STOPS = 3;
    private static final int WAYS = 4;
    private static final int UMBRELLAS = 5;
    private static final int RINGS = 6;
    private static final int BACKS = 7;
    private static final int OWNERS = 8;
    private static final int OUTS = 9;
    private static final int RAINS = 10;
    private static final int WINDS = 11;
    private static final int ACTS_TO_UNDO = 12;
    private static final int MARKS = 13;
    private static final int BYTES = 14;

    private Flight told = new Flight();
    /** The next text is read into this one, so that the flight stays if the text has a fault. */
    private Flight spareFlight = new Flight();
    private final Row tape = new Row(TAPE_BYTES);
    private final Reader reader = new Reader(tape, spareFlight);
    private final Plan now = new Plan();
    private final Plan trialPlan = new Plan();
    private final Acts acts = new Acts();
    private final Year year = new Year(told, now);
    private final Year trialYear = new Year(told, now);
    private final WaysOut out = new WaysOut();
    private final Fits fitting = new Fits();
    private final Halls halls = new Halls();
    private int taped;
    private int refusal;
    private int latestFault;
    private int faultPlace;

    public UmbrellaFlight() {
        taped = 0;
        refusal = 0;
        latestFault = 0;
        faultPlace = NONE;
    }

    // ---- the flight

    public int feed(int a, int b, int c, int d, int e) {
        if (taped + FED_BYTES > TAPE_BYTES) {
            return NONE;
        }
        tapeNumber(a);
        tapeNumber(b);
        tapeNumber(c);
        tapeNumber(d);
        tapeNumber(e);
        return taped;
    }

    public int flight(int n) {
        if (n < 0 || n > taped) {
            return refused(A_NUMBER);
        }
        taped = 0;
        boolean good = reader.reads(n, spareFlight);
        latestFault = reader.reason;
        faultPlace = reader.spot;
        if (!good) {
            return refused(A_FAULT);
        }
        Flight old = told;
        told = spareFlight;
        spareFlight = old;
        now.begin(told);
        acts.clear();
        out.find(told);
        fitting.forget();
        settle();
        return answered(told.umbrellas());
    }

    public int fault() {
        return latestFault;
    }

    public int where() {
        return refusal == A_FAULT ? faultPlace : NONE;
    }

    // ---- as told

    public int stop(int s) {
        if (!isStop(s)) {
            return refused(NONE_SUCH);
        }
        return answered(told.sorts.look(s));
    }

    public int way(int from, int to, int what) {
        if (!isStop(from) || !isStop(to) || what < 0 || what > 1) {
            return refused(NONE_SUCH);
        }
        int wind = told.windOf(from, to);
        return answered(wind < 0 || what == 0 ? wind : told.lossOf(from, to));
    }

    public int umbrella(int u, int what) {
        if (!isUmbrella(u) || what < 0 || what > 5) {
            return refused(NONE_SUCH);
        }
        switch (what) {
            case 0:
                return answered(told.kinds.look(u));
            case 1:
                return answered(now.strongOf(u));
            case 2:
                return answered(told.homes.look(u));
            case 3:
                return answered(now.setsOutOf(u));
            case 4:
                return answered(Route.ways(now.routeOf(u)));
            default:
                return answered(now.isKept(u) ? 1 : 0);
        }
    }

    public int flies(int u, int i) {
        if (!isUmbrella(u) || i < 0 || i >= Route.ways(now.routeOf(u))) {
            return refused(NONE_SUCH);
        }
        return answered(Route.stopAt(now.routeOf(u), i));
    }

    // ---- a year

    public int at(int u, int day) {
        int why = noUmbrellaOrDay(u, day);
        return why != 0 ? refused(why) : answered(year.places.look(Year.cell(u, day)));
    }

    public int strength(int u, int day) {
        int why = noUmbrellaOrDay(u, day);
        return why != 0 ? refused(why) : answered(year.strengths.look(Year.cell(u, day)));
    }

    public int flock(int u, int day) {
        int why = noUmbrellaOrDay(u, day);
        return why != 0 ? refused(why) : answered(year.flocks.look(Year.cell(u, day)));
    }

    public int falls(int u) {
        if (!isUmbrella(u)) {
            return refused(NONE_SUCH);
        }
        return answered(year.fallen.look(u));
    }

    public int arrived() {
        if (!hasFlight()) {
            return refused(NONE_SUCH);
        }
        return answered(year.arrivals());
    }

    public int many(int s, int day) {
        if (!isStop(s)) {
            return refused(NONE_SUCH);
        }
        if (!isDay(day)) {
            return refused(A_NUMBER);
        }
        int there = 0;
        for (int u = 0; u < told.umbrellas(); u++) {
            if (year.places.look(Year.cell(u, day)) == s) {
                there++;
            }
        }
        return answered(there);
    }

    public int wedge() {
        if (!hasFlight()) {
            return refused(NONE_SUCH);
        }
        int most = 0;
        for (int day = 0; day < told.days(); day++) {
            for (int u = 0; u < told.umbrellas(); u++) {
                most = Math.max(most, Integer.bitCount(year.flocks.look(Year.cell(u, day))));
            }
        }
        return answered(most);
    }

    public int strongest() {
        if (!hasFlight()) {
            return refused(NONE_SUCH);
        }
        int best = WITHOUT;
        int most = NONE;
        for (int u = 0; u < told.umbrellas(); u++) {
            int left = year.strengths.look(Year.cell(u, told.days() - 1));
            if ((year.arrivals() >> u & 1) == 1 && left > most) {
                best = u;
                most = left;
            }
        }
        return answered(best);
    }

    public int judge() {
        if (!hasFlight()) {
            return refused(NONE_SUCH);
        }
        for (int r = 0; r < told.sizes.look(RINGS); r++) {
            int place = year.places.look(Year.cell(told.ringOf.look(r), told.ringDays.look(r)));
            if (place != told.ringStops.look(r)) {
                return answered(r);
            }
        }
        return answered(WITHOUT);
    }

    // ---- ways out

    public int waysOut(int u) {
        if (!isUmbrella(u)) {
            return refused(NONE_SUCH);
        }
        return answered(out.foundFor(u));
    }

    public int wayOut(int u, int k, int i) {
        if (!isWayOut(u, k) || i < 0 || i > Route.ways(out.routeOf(u, k))) {
            return refused(NONE_SUCH);
        }
        return answered(i == 0 ? told.homes.look(u) : Route.stopAt(out.routeOf(u, k), i - 1));
    }

    public long chance(int u, int k, boolean lower) {
        if (!isWayOut(u, k)) {
            return refused(NONE_SUCH);
        }
        refusal = 0;
        return lowest(WaysOut.lotOf(told, u, out.routeOf(u, k)), WaysOut.ALL_LOTS, lower);
    }

    public int bestWay(int u) {
        if (!isUmbrella(u)) {
            return refused(NONE_SUCH);
        }
        int best = NONE;
        long most = -1;
        for (int k = 0; k < out.foundFor(u); k++) {
            long lot = WaysOut.lotOf(told, u, out.routeOf(u, k));
            if (lot > most) {
                best = k;
                most = lot;
            }
        }
        return best == NONE ? refused(THERE_IS_NONE) : answered(best);
    }

    public int bestDay(int u) {
        int why = noFlier(u);
        return why != 0 ? refused(why) : answered(firstBestDay(u));
    }

    public int bestMany(int u) {
        int why = noFlier(u);
        return why != 0 ? refused(why) : answered(arrivingBy(u, firstBestDay(u)));
    }

    // ---- what fits

    public int fits(int u) {
        if (!isUmbrella(u)) {
            return refused(NONE_SUCH);
        }
        fitting.weigh(told, out, u);
        return answered(fitting.total);
    }

    public int could(int u) {
        if (!isUmbrella(u)) {
            return refused(NONE_SUCH);
        }
        fitting.weigh(told, out, u);
        return answered(fitting.inSome);
    }

    public int surely(int u) {
        if (!isUmbrella(u)) {
            return refused(NONE_SUCH);
        }
        fitting.weigh(told, out, u);
        return answered(fitting.total == 0 ? 0 : fitting.inAll);
    }

    public int likeliest(int u) {
        int why = noFit(u);
        return why != 0 ? refused(why) : answered(fitting.likely);
    }

    public int count(int u) {
        int why = noFit(u);
        return why != 0 ? refused(why) : answered(fitting.lookAt);
    }

    public int countMost(int u) {
        int why = noFit(u);
        return why != 0 ? refused(why) : answered(fitting.leftAtMost);
    }

    // ---- owners

    public int wet(int day) {
        if (!hasFlight()) {
            return refused(NONE_SUCH);
        }
        if (!isDay(day)) {
            return refused(A_NUMBER);
        }
        int bits = 0;
        for (int o = 0; o < told.owners(); o++) {
            bits |= Halls.isWet(told, now, o, day) ? 1 << o : 0;
        }
        return answered(bits);
    }

    public int wetDays(int o) {
        if (o < 0 || o >= told.owners()) {
            return refused(NONE_SUCH);
        }
        int days = 0;
        for (int day = 0; day < told.days(); day++) {
            days += Halls.isWet(told, now, o, day) ? 1 : 0;
        }
        return answered(days);
    }

    public int pins(int hall) {
        if (!isHall(hall)) {
            return refused(NONE_SUCH);
        }
        return answered(Halls.pinsOf(told, hall));
    }

    public int spare(int hall) {
        if (!isHall(hall)) {
            refusal = NONE_SUCH;
            return NO_SPARE;
        }
        return answered(Halls.atHomeIn(told, hall) - Halls.pinsOf(told, hall));
    }

    public int handings() {
        if (!hasFlight()) {
            return refused(NONE_SUCH);
        }
        return answered(halls.fewestExchanges(told));
    }

    // ---- setting out, a herd

    public long mean(boolean lower) {
        if (!hasFlight()) {
            return refused(NONE_SUCH);
        }
        if (told.winds() == 0) {
            return refused(THERE_IS_NONE);
        }
        refusal = 0;
        return lowest(worthFrom(0), partsFrom(0), lower);
    }

    public int go(int day, boolean good) {
        if (!hasFlight()) {
            return refused(NONE_SUCH);
        }
        if (told.winds() == 0) {
            return refused(THERE_IS_NONE);
        }
        if (day < 0 || day >= told.winds()) {
            return refused(NONE_SUCH);
        }
        long worth = good ? told.goods.look(day) : told.bads.look(day);
        return answered(worth * partsFrom(day + 1) >= worthFrom(day + 1) ? 1 : 0);
    }

    public int herd(int n, int t, int y) {
        if (!hasFlight()) {
            return refused(NONE_SUCH);
        }
        if (n < 0 || n > MOST_HERD || t < 0 || t > MOST_HERD || y < 0 || y > MOST_YEARS) {
            return refused(A_NUMBER);
        }
        return answered(herdBehind(n, t, y));
    }

    public int mostTaken(int n, int y) {
        if (!hasFlight()) {
            return refused(NONE_SUCH);
        }
        if (n < 0 || n > MOST_HERD || y < 0 || y > MOST_YEARS) {
            return refused(A_NUMBER);
        }
        // The more are taken, the fewer are left: so the greatest can be found by halving.
        int held = WITHOUT;
        int from = 0;
        int to = MOST_HERD;
        for (int i = 0; i < MOST_HERD && from <= to; i++) {
            int t = (from + to) / 2;
            if (herdBehind(n, t, y) >= n) {
                held = t;
                from = t + 1;
            } else {
                to = t - 1;
            }
        }
        return answered(held);
    }

    // ---- years by draws

    public int yearBy(int seed) {
        if (!hasFlight()) {
            return refused(NONE_SUCH);
        }
        if (seed < 0 || seed > MOST_SEED) {
            return refused(A_NUMBER);
        }
        trialYear.pass(told, now, seed);
        return answered(trialYear.arrivals());
    }

    public int seasons(int seed, int n) {
        if (!hasFlight()) {
            return refused(NONE_SUCH);
        }
        if (seed < 0 || seed > MOST_SEED || n < 1 || n > MOST_SEASONS) {
            return refused(A_NUMBER);
        }
        int all = 0;
        int goingOn = seed;
        for (int i = 0; i < n; i++) {
            trialYear.pass(told, now, goingOn);
            goingOn = trialYear.seed;
            all += Integer.bitCount(trialYear.arrivals());
        }
        return answered(all);
    }

    // ---- acts

    public boolean keep(int u, boolean is) {
        if (!isUmbrella(u)) {
            return isRefused(NONE_SUCH);
        }
        if (now.isKept(u) == is) {
            return isRefused(NOT_SO);
        }
        acts.remember(now);
        now.setKept(u, is);
        settle();
        return isDone();
    }

    public boolean send(int u, int k, int day) {
        if (!isWayOut(u, k)) {
            return isRefused(NONE_SUCH);
        }
        if (!isDay(day)) {
            return isRefused(A_NUMBER);
        }
        int route = out.routeOf(u, k);
        if (now.setsOutOf(u) == day && now.routeOf(u) == route) {
            return isRefused(NOT_SO);
        }
        acts.remember(now);
        now.setOut(u, day, route);
        settle();
        return isDone();
    }

    public int mend(int u) {
        if (!isUmbrella(u)) {
            return refused(NONE_SUCH);
        }
        int strong = now.strongOf(u);
        if (strong >= MOST_STRONG) {
            return refused(NOT_SO);
        }
        acts.remember(now);
        now.setStrong(u, strong + 1);
        settle();
        return answered(strong + 1);
    }

    public boolean undo() {
        if (acts.toUndo == 0) {
            return isRefused(THERE_IS_NONE);
        }
        acts.takeBack(now);
        settle();
        return isDone();
    }

    public int mark() {
        if (!hasFlight()) {
            return refused(NONE_SUCH);
        }
        if (acts.marked >= Acts.MOST_MARKS) {
            return refused(NO_ROOM);
        }
        return answered(acts.setMark(now));
    }

    public boolean back(int mark) {
        if (mark < 0 || mark >= acts.marked) {
            return isRefused(NONE_SUCH);
        }
        acts.goBack(mark, now);
        settle();
        return isDone();
    }

    // ---- what is told

    public int led(int i) throws NoSuchElementException {
        int ahead = 0;
        for (int u = 0; u < told.umbrellas(); u++) {
            if (year.fallen.look(u) >= 0) {
                if (ahead == i) {
                    return u;
                }
                ahead++;
            }
        }
        throw new NoSuchElementException("no such umbrella falls");
    }

    public int size(int what) {
        switch (what) {
            case ACTS_TO_UNDO:
                return acts.toUndo;
            case MARKS:
                return acts.marked;
            case BYTES:
                return taped;
            default:
                return what < DAYS || what > WINDS ? NONE : told.sizes.look(what);
        }
    }

    public int trouble() {
        return refusal;
    }

    // ---- how calls are answered

    private int refused(int why) {
        refusal = why;
        return NONE;
    }

    private int answered(int answer) {
        refusal = 0;
        return answer;
    }

    private boolean isRefused(int why) {
        refusal = why;
        return false;
    }

    private boolean isDone() {
        refusal = 0;
        return true;
    }

    private boolean hasFlight() {
        return told.days() > 0;
    }

    private boolean isStop(int s) {
        return s >= 0 && s < told.stops();
    }

    private boolean isHall(int s) {
        return isStop(s) && told.sorts.look(s) == HALL;
    }

    private boolean isUmbrella(int u) {
        return u >= 0 && u < told.umbrellas();
    }

    private boolean isDay(int day) {
        return day >= 0 && day < told.days();
    }

    private boolean isWayOut(int u, int k) {
        return isUmbrella(u) && k >= 0 && k < out.foundFor(u);
    }

    private int noUmbrellaOrDay(int u, int day) {
        if (!isUmbrella(u)) {
            return NONE_SUCH;
        }
        return isDay(day) ? 0 : A_NUMBER;
    }

    private int noFlier(int u) {
        if (!isUmbrella(u)) {
            return NONE_SUCH;
        }
        return now.setsOutOf(u) < 0 ? THERE_IS_NONE : 0;
    }

    private int noFit(int u) {
        if (!isUmbrella(u)) {
            return NONE_SUCH;
        }
        fitting.weigh(told, out, u);
        return fitting.total == 0 ? THERE_IS_NONE : 0;
    }

    // ---- how answers are found

    private void tapeNumber(int x) {
        for (int shift = 24; shift >= 0; shift -= 8) {
            tape.put(taped, x >> shift & 255);
            taped++;
        }
    }

    /** The year that all calls look at follows every change at once. */
    private void settle() {
        year.pass(told, now, NONE);
    }

    private int arrivingBy(int u, int day) {
        trialPlan.copy(now);
        trialPlan.setOut(u, day, now.routeOf(u));
        trialYear.pass(told, trialPlan, NONE);
        return Integer.bitCount(trialYear.arrivals());
    }

    private int firstBestDay(int u) {
        int best = 0;
        int most = NONE;
        for (int day = 0; day < told.days(); day++) {
            int arriving = arrivingBy(u, day);
            if (arriving > most) {
                best = day;
                most = arriving;
            }
        }
        return best;
    }

    private int herdBehind(int n, int t, int y) {
        int left = n;
        for (int i = 0; i < y; i++) {
            left = Math.max(0, left - t);
            left += left * told.sizes.look(GROWS) / 100;
            left = Math.min(left, told.sizes.look(ROOM));
        }
        return left;
    }

    /** What one may hope for if one hasn't set out ahead of a day, in the parts that partsFrom tells. */
    private long worthFrom(int day) {
        long worth = 0;
        long parts = 1;
        for (int i = told.winds() - 1; i >= day; i--) {
            long good = Math.max(told.goods.look(i) * parts, worth);
            long bad = Math.max(told.bads.look(i) * parts, worth);
            long chance = told.chances.look(i);
            worth = chance * good + (100 - chance) * bad;
            parts *= 100;
        }
        return worth;
    }

    private long partsFrom(int day) {
        long parts = 1;
        for (int i = day; i < told.winds(); i++) {
            parts *= 100;
        }
        return parts;
    }

    private static long lowest(long upper, long under, boolean lower) {
        long common = upper;
        long rest = under;
        // Euclid's steps: some seventy at most for numbers of this size
        for (int i = 0; i < 200 && rest != 0; i++) {
            long left = common % rest;
            common = rest;
            rest = left;
        }
        if (common == 0) {
            return lower ? under : upper;
        }
        return lower ? under / common : upper / common;
    }

    /** Numbers in a row; outside of it 0 is read and nothing is written, so that no index can ever be wrong. */
    private static final class Row {
        private final int[] cells;

        Row(int length) {
            cells = new int[length < 0 ? 0 : length];
        }

        int look(int i) {
            return i >= 0 && i < cells.length ? cells[i] : 0;
        }

        void put(int i, int x) {
            if (i >= 0 && i < cells.length) {
                cells[i] = x;
            }
        }

        void add(int i, int x) {
            put(i, look(i) + x);
        }

        void fill(int x) {
            for (int i = 0; i < cells.length; i++) {
                cells[i] = x;
            }
        }

        void copy(int to, Row other, int from, int length) {
            for (int i = 0; i < length; i++) {
                put(to + i, other.look(from + i));
            }
        }
    }

    /** Up to five stops flown to, in one number: four bits for each, the stop's number and one; 0 behind the last. */
    private static final class Route {
        static int stopAt(int route, int i) {
            return i < 0 || i >= MOST_STOPS_FLOWN ? NONE : (route >> 4 * i & 15) - 1;
        }

        static int with(int route, int i, int stop) {
            return i < 0 || i >= MOST_STOPS_FLOWN ? route : route | stop + 1 << 4 * i;
        }

        static int ways(int route) {
            int ways = 0;
            for (int i = 0; i < MOST_STOPS_FLOWN; i++) {
                ways += stopAt(route, i) >= 0 ? 1 : 0;
            }
            return ways;
        }
    }

    /** What a text tells; without one all is empty, and there are no days. */
    private static final class Flight {
        final Row sizes = new Row(WINDS + 1);
        final Row sorts = new Row(MOST_STOPS);
        private final Row wayWinds = new Row(MOST_STOPS * MOST_STOPS);
        private final Row wayLosses = new Row(MOST_STOPS * MOST_STOPS);
        final Row kinds = new Row(MOST_UMBRELLAS);
        final Row strong = new Row(MOST_UMBRELLAS);
        final Row homes = new Row(MOST_UMBRELLAS);
        final Row setsOut = new Row(MOST_UMBRELLAS);
        final Row routes = new Row(MOST_UMBRELLAS);
        final Row backAt = new Row(MOST_UMBRELLAS);
        final Row ringOf = new Row(MOST_RINGS);
        final Row ringStops = new Row(MOST_RINGS);
        final Row ringDays = new Row(MOST_RINGS);
        final Row ownHalls = new Row(MOST_OWNERS);
        private final Row outDays = new Row(MOST_OWNERS);
        private final Row rainy = new Row(MOST_DAYS);
        final Row chances = new Row(MOST_WINDS);
        final Row goods = new Row(MOST_WINDS);
        final Row bads = new Row(MOST_WINDS);

        void clear() {
            sizes.fill(0);
            wayWinds.fill(WITHOUT);
            setsOut.fill(WITHOUT);
            routes.fill(0);
            backAt.fill(WITHOUT);
            outDays.fill(0);
            rainy.fill(0);
        }

        int days() {
            return sizes.look(DAYS);
        }

        int lastDay() {
            return days() - 1;
        }

        int stops() {
            return sizes.look(STOPS);
        }

        int umbrellas() {
            return sizes.look(UMBRELLAS);
        }

        int owners() {
            return sizes.look(OWNERS);
        }

        int winds() {
            return sizes.look(WINDS);
        }

        int windOf(int from, int to) {
            return wayWinds.look(from * MOST_STOPS + to);
        }

        int lossOf(int from, int to) {
            return wayLosses.look(from * MOST_STOPS + to);
        }

        int lossFor(int u, int from, int to) {
            int loss = wayLosses.look(from * MOST_STOPS + to);
            return kinds.look(u) == LADY ? 2 * loss : loss;
        }

        void setWay(int from, int to, int wind, int loss) {
            wayWinds.put(from * MOST_STOPS + to, wind);
            wayLosses.put(from * MOST_STOPS + to, loss);
        }

        boolean isRainy(int day) {
            return rainy.look(day) == 1;
        }

        void setRain(int day) {
            rainy.put(day, 1);
        }

        boolean isOut(int o, int day) {
            return (outDays.look(o) >> day & 1) == 1;
        }

        void setOuting(int o, int first, int last) {
            for (int day = first; day <= last; day++) {
                outDays.put(o, outDays.look(o) | 1 << day);
            }
        }
    }

    /** The tokens of the first bytes of the tape, one after another: the one that stands at hand. */
    private static final class Tokens {
        static final int END = 0;
        static final int WORD = 1;
        static final int WHOLE = 2;
        static final int SEMICOLON = 3;
        static final int COMMA = 4;
        static final int NO_TOKEN = 5;
        private static final int MOST_LETTERS = 8;
        private static final int MOST_DIGITS = 3;

        private final Row bytes;
        private int end;
        private int next;
        int place;
        int sort;
        /** Its letters, five bits each. */
        long word;
        int whole;

        Tokens(Row tape) {
            bytes = tape;
        }

        void begin(int n) {
            end = n;
            next = 0;
            step();
        }

        void step() {
            place = next;
            while (place < end && bytes.look(place) == ' ') {
                place++;
            }
            word = 0;
            whole = 0;
            next = place;
            int first = bytes.look(place);
            if (place >= end) {
                sort = END;
            } else if (first >= 'a' && first <= 'z') {
                readLetters();
            } else if (first >= '0' && first <= '9') {
                readDigits();
            } else {
                next = place + 1;
                sort = first == ';' ? SEMICOLON : first == ',' ? COMMA : NO_TOKEN;
            }
        }

        boolean is(String text) {
            return sort == WORD && word == packed(text);
        }

        static long packed(String text) {
            long letters = 0;
            for (int i = 0; i < text.length(); i++) {
                letters = letters * 32 + text.charAt(i) - 'a' + 1;
            }
            return letters;
        }

        /** All that stand together: too many are no word, nor are some of them one. */
        private void readLetters() {
            int c = bytes.look(next);
            while (next < end && c >= 'a' && c <= 'z') {
                word = word * 32 + c - 'a' + 1;
                next++;
                c = bytes.look(next);
            }
            sort = next - place <= MOST_LETTERS ? WORD : NO_TOKEN;
        }

        private void readDigits() {
            int c = bytes.look(next);
            while (next < end && c >= '0' && c <= '9') {
                whole = whole * 10 + c - '0';
                next++;
                c = bytes.look(next);
            }
            sort = next - place <= MOST_DIGITS ? WHOLE : NO_TOKEN;
        }
    }

    /** Reads a text from the left up to its end, or to its first fault. */
    private static final class Reader {
        private static final int FORM = 1;
        private static final int UNKNOWN = 2;
        private static final int AGAIN = 3;
        private static final int BOUNDS = 4;
        private static final int MANY = 5;
        private static final int LACKS = 6;
        private static final int NO_WAY = 7;

        /** Sorts of lines beside those that are counted by the numbers from STOPS to WINDS. */
        private static final int FLIGHT_LINE = 0;
        private static final int FLIES_LINE = 1;

        /** The words that begin lines are just those that no name may be: so they stand among the names, ahead of them. */
        private static final int LINE_WORD = 0;
        private static final int LINE_WORDS = 11;
        private static final int MOST_NAMES = LINE_WORDS + MOST_STOPS + MOST_UMBRELLAS + MOST_OWNERS;

        private final Tokens tokens;
        private final long[] names = new long[MOST_NAMES];
        private final Row nameSorts = new Row(MOST_NAMES);
        private final Row nameNumbers = new Row(MOST_NAMES);
        private int named;
        private Flight into;
        int reason;
        int spot;

        Reader(Row tape, Flight first) {
            tokens = new Tokens(tape);
            into = first;
            addName(Tokens.packed("flight"), LINE_WORD, FLIGHT_LINE);
            addName(Tokens.packed("flies"), LINE_WORD, FLIES_LINE);
            addName(Tokens.packed("stop"), LINE_WORD, STOPS);
            addName(Tokens.packed("way"), LINE_WORD, WAYS);
            addName(Tokens.packed("umbrella"), LINE_WORD, UMBRELLAS);
            addName(Tokens.packed("ring"), LINE_WORD, RINGS);
            addName(Tokens.packed("back"), LINE_WORD, BACKS);
            addName(Tokens.packed("owner"), LINE_WORD, OWNERS);
            addName(Tokens.packed("out"), LINE_WORD, OUTS);
            addName(Tokens.packed("rain"), LINE_WORD, RAINS);
            addName(Tokens.packed("wind"), LINE_WORD, WINDS);
        }

        boolean reads(int n, Flight flight) {
            into = flight;
            into.clear();
            named = LINE_WORDS;
            reason = 0;
            spot = NONE;
            tokens.begin(n);
            boolean good = readLine();
            // every line has a byte at least, so there can't be more lines than bytes
            for (int i = 0; i < TAPE_BYTES && good && tokens.sort == Tokens.SEMICOLON; i++) {
                tokens.step();
                good = readLine();
            }
            if (good && tokens.sort != Tokens.END) {
                return blame(FORM);
            }
            if (good && into.umbrellas() == 0) {
                return blame(LACKS);
            }
            return good;
        }

        private boolean blame(int why) {
            reason = why;
            spot = tokens.place;
            return false;
        }

        private int noneFor(int why) {
            blame(why);
            return NONE;
        }

        private boolean readLine() {
            int i = findName();
            if (i == NONE || nameSorts.look(i) != LINE_WORD) {
                return blame(FORM);
            }
            int sort = nameNumbers.look(i);
            boolean begun = into.days() > 0;
            if (!begun && sort != FLIGHT_LINE) {
                return blame(LACKS);
            }
            if (begun && sort == FLIGHT_LINE) {
                return blame(AGAIN);
            }
            if (sort >= STOPS && into.sizes.look(sort) >= mostLines(sort)) {
                return blame(MANY);
            }
            tokens.step();
            boolean good;
            switch (sort) {
                case FLIGHT_LINE:
                    good = readFlight();
                    break;
                case FLIES_LINE:
                    good = readFlies();
                    break;
                case STOPS:
                    good = readStop(into.stops());
                    break;
                case WAYS:
                    good = readWay();
                    break;
                case UMBRELLAS:
                    good = readUmbrella(into.umbrellas());
                    break;
                case RINGS:
                    good = readRing(into.sizes.look(RINGS));
                    break;
                case BACKS:
                    good = readBack();
                    break;
                case OWNERS:
                    good = readOwner(into.owners());
                    break;
                case OUTS:
                    good = readOut();
                    break;
                case RAINS:
                    good = readRain();
                    break;
                default:
                    good = readWind(into.winds());
                    break;
            }
            if (good && sort >= STOPS) {
                into.sizes.add(sort, 1);
            }
            return good;
        }

        private static int mostLines(int sort) {
            switch (sort) {
                case STOPS:
                    return MOST_STOPS;
                case WAYS:
                    return MOST_WAYS;
                case UMBRELLAS:
                    return MOST_UMBRELLAS;
                case RINGS:
                    return MOST_RINGS;
                case OWNERS:
                    return MOST_OWNERS;
                case OUTS:
                    return MOST_OUTS;
                case RAINS:
                    return MOST_RAINS;
                case WINDS:
                    return MOST_WINDS;
                default:
                    // no number bounds those that are back: each is so once
                    return TAPE_BYTES;
            }
        }

        private boolean readFlight() {
            int days = readWord("days") ? readWhole(2, MOST_DAYS) : NONE;
            int grows = days != NONE && readWord("grows") ? readWhole(0, 99) : NONE;
            int room = grows != NONE && readWord("room") ? readWhole(1, MOST_HERD) : NONE;
            if (room == NONE) {
                return false;
            }
            into.sizes.put(DAYS, days);
            into.sizes.put(GROWS, grows);
            into.sizes.put(ROOM, room);
            return true;
        }

        private boolean readStop(int s) {
            if (!readNewName(STOPS, s)) {
                return false;
            }
            int sort = tokens.is("hall") ? HALL : tokens.is("strait") ? STRAIT : tokens.is("south") ? SOUTH : NONE;
            if (sort == NONE) {
                return blame(FORM);
            }
            into.sorts.put(s, sort);
            tokens.step();
            return true;
        }

        private boolean readWay() {
            int from = toldName(STOPS);
            if (from == NONE) {
                return false;
            }
            tokens.step();
            int to = toldName(STOPS);
            if (to == NONE) {
                return false;
            }
            if (from == to || into.windOf(from, to) >= 0) {
                return blame(AGAIN);
            }
            tokens.step();
            int wind = readWord("wind") ? readWhole(0, 9) : NONE;
            int loss = wind != NONE && readWord("loss") ? readWhole(0, 50) : NONE;
            if (loss == NONE) {
                return false;
            }
            into.setWay(from, to, wind, loss);
            return true;
        }

        private boolean readUmbrella(int u) {
            if (!readNewName(UMBRELLAS, u)) {
                return false;
            }
            int kind = kindAtHand();
            if (kind == NONE) {
                return blame(FORM);
            }
            tokens.step();
            int strong = readWord("strong") ? readWhole(0, MOST_STRONG) : NONE;
            int home = strong != NONE && readWord("home") ? readHall() : NONE;
            if (home == NONE) {
                return false;
            }
            into.kinds.put(u, kind);
            into.strong.put(u, strong);
            into.homes.put(u, home);
            return true;
        }

        private int kindAtHand() {
            if (tokens.is("black")) {
                return BLACK;
            }
            if (tokens.is("golf")) {
                return GOLF;
            }
            if (tokens.is("lady")) {
                return LADY;
            }
            if (tokens.is("folding")) {
                return FOLDING;
            }
            return tokens.is("miser") ? MISER : NONE;
        }

        private boolean readFlies() {
            int u = toldName(UMBRELLAS);
            if (u == NONE) {
                return false;
            }
            if (into.setsOut.look(u) >= 0) {
                return blame(AGAIN);
            }
            tokens.step();
            int day = readWhole(0, into.lastDay());
            int route = day != NONE ? readRoute(into.homes.look(u)) : NONE;
            if (route == NONE) {
                return false;
            }
            into.setsOut.put(u, day);
            into.routes.put(u, route);
            return true;
        }

        private int readRoute(int home) {
            int route = 0;
            int from = home;
            boolean more = true;
            for (int i = 0; i <= MOST_STOPS_FLOWN && more; i++) {
                int to = toldName(STOPS);
                if (to == NONE) {
                    return NONE;
                }
                if (i == MOST_STOPS_FLOWN) {
                    return noneFor(MANY);
                }
                if (into.windOf(from, to) < 0) {
                    return noneFor(NO_WAY);
                }
                route = Route.with(route, i, to);
                from = to;
                tokens.step();
                more = tokens.sort == Tokens.COMMA;
                if (more) {
                    tokens.step();
                }
            }
            return route;
        }

        private boolean readRing(int r) {
            int u = toldName(UMBRELLAS);
            if (u == NONE) {
                return false;
            }
            tokens.step();
            int s = toldName(STOPS);
            if (s == NONE) {
                return false;
            }
            tokens.step();
            int day = readWhole(0, into.lastDay());
            if (day == NONE) {
                return false;
            }
            into.ringOf.put(r, u);
            into.ringStops.put(r, s);
            into.ringDays.put(r, day);
            return true;
        }

        private boolean readBack() {
            int u = toldName(UMBRELLAS);
            if (u == NONE) {
                return false;
            }
            if (into.backAt.look(u) >= 0) {
                return blame(AGAIN);
            }
            tokens.step();
            int hall = readHall();
            if (hall == NONE) {
                return false;
            }
            into.backAt.put(u, hall);
            return true;
        }

        private boolean readOwner(int o) {
            int hall = readNewName(OWNERS, o) ? readHall() : NONE;
            if (hall == NONE) {
                return false;
            }
            into.ownHalls.put(o, hall);
            return true;
        }

        private boolean readOut() {
            int o = toldName(OWNERS);
            if (o == NONE) {
                return false;
            }
            tokens.step();
            int first = readWhole(0, into.lastDay());
            int last = first != NONE && readWord("to") ? readWhole(first, into.lastDay()) : NONE;
            if (last == NONE) {
                return false;
            }
            into.setOuting(o, first, last);
            return true;
        }

        private boolean readRain() {
            if (tokens.sort == Tokens.WHOLE && into.isRainy(tokens.whole)) {
                return blame(AGAIN);
            }
            int day = readWhole(0, into.lastDay());
            if (day == NONE) {
                return false;
            }
            into.setRain(day);
            return true;
        }

        private boolean readWind(int w) {
            int chance = readWhole(0, 100);
            int good = chance != NONE && readWord("good") ? readWhole(0, 99) : NONE;
            int bad = good != NONE && readWord("bad") ? readWhole(0, 99) : NONE;
            if (bad == NONE) {
                return false;
            }
            into.chances.put(w, chance);
            into.goods.put(w, good);
            into.bads.put(w, bad);
            return true;
        }

        private boolean readWord(String text) {
            if (!tokens.is(text)) {
                return blame(FORM);
            }
            tokens.step();
            return true;
        }

        private int readWhole(int least, int most) {
            if (tokens.sort != Tokens.WHOLE) {
                return noneFor(FORM);
            }
            int whole = tokens.whole;
            if (whole < least || whole > most) {
                return noneFor(BOUNDS);
            }
            tokens.step();
            return whole;
        }

        private int readHall() {
            int s = toldName(STOPS);
            if (s == NONE) {
                return NONE;
            }
            if (into.sorts.look(s) != HALL) {
                return noneFor(UNKNOWN);
            }
            tokens.step();
            return s;
        }

        private boolean readNewName(int sort, int number) {
            int i = findName();
            if (tokens.sort != Tokens.WORD || i != NONE && nameSorts.look(i) == LINE_WORD) {
                return blame(FORM);
            }
            if (i != NONE) {
                return blame(AGAIN);
            }
            addName(tokens.word, sort, number);
            tokens.step();
            return true;
        }

        /** The number of the name at hand; it isn't passed, for more may be wrong with it. */
        private int toldName(int sort) {
            int i = findName();
            if (tokens.sort != Tokens.WORD || i != NONE && nameSorts.look(i) == LINE_WORD) {
                return noneFor(FORM);
            }
            if (i == NONE || nameSorts.look(i) != sort) {
                return noneFor(UNKNOWN);
            }
            return nameNumbers.look(i);
        }

        private void addName(long word, int sort, int number) {
            if (named >= 0 && named < names.length) {
                names[named] = word;
                nameSorts.put(named, sort);
                nameNumbers.put(named, number);
                named++;
            }
        }

        private int findName() {
            for (int i = 0; tokens.sort == Tokens.WORD && i < named && i < names.length; i++) {
                if (names[i] == tokens.word) {
                    return i;
                }
            }
            return NONE;
        }
    }

    /** How all is NOW: what acts change. */
    private static final class Plan {
        private static final int SETS_OUT = MOST_UMBRELLAS;
        private static final int ROUTES = 2 * MOST_UMBRELLAS;
        private static final int KEPT = 3 * MOST_UMBRELLAS;
        static final int CELLS = 3 * MOST_UMBRELLAS + 1;

        final Row cells = new Row(CELLS);

        void begin(Flight told) {
            cells.copy(0, told.strong, 0, MOST_UMBRELLAS);
            cells.copy(SETS_OUT, told.setsOut, 0, MOST_UMBRELLAS);
            cells.copy(ROUTES, told.routes, 0, MOST_UMBRELLAS);
            cells.put(KEPT, 0);
        }

        void copy(Plan other) {
            cells.copy(0, other.cells, 0, CELLS);
        }

        int strongOf(int u) {
            return cells.look(u);
        }

        int setsOutOf(int u) {
            return cells.look(SETS_OUT + u);
        }

        int routeOf(int u) {
            return cells.look(ROUTES + u);
        }

        boolean isKept(int u) {
            return (cells.look(KEPT) >> u & 1) == 1;
        }

        void setStrong(int u, int strong) {
            cells.put(u, strong);
        }

        void setOut(int u, int day, int route) {
            cells.put(SETS_OUT + u, day);
            cells.put(ROUTES + u, route);
        }

        void setKept(int u, boolean is) {
            int others = cells.look(KEPT) & ~(1 << u);
            cells.put(KEPT, is ? others | 1 << u : others);
        }
    }

    /** How all was ahead of the latest acts, in a ring of plans, and by the marks. */
    private static final class Acts {
        static final int MOST_MARKS = 3;
        private static final int MOST_PAST = 16;

        private final Row past = new Row(MOST_PAST * Plan.CELLS);
        private final Row marks = new Row(MOST_MARKS * Plan.CELLS);
        private int oldest;
        int toUndo;
        int marked;

        void clear() {
            oldest = 0;
            toUndo = 0;
            marked = 0;
        }

        void remember(Plan now) {
            past.copy(pastCell(toUndo), now.cells, 0, Plan.CELLS);
            if (toUndo < MOST_PAST) {
                toUndo++;
            } else {
                oldest = (oldest + 1) % MOST_PAST;
            }
        }

        void takeBack(Plan now) {
            if (toUndo > 0) {
                toUndo--;
                now.cells.copy(0, past, pastCell(toUndo), Plan.CELLS);
            }
        }

        int setMark(Plan now) {
            marks.copy(marked * Plan.CELLS, now.cells, 0, Plan.CELLS);
            marked++;
            return marked - 1;
        }

        void goBack(int mark, Plan now) {
            now.cells.copy(0, marks, mark * Plan.CELLS, Plan.CELLS);
            toUndo = 0;
        }

        private int pastCell(int i) {
            return (oldest + i) % MOST_PAST * Plan.CELLS;
        }
    }

    /** A year, day by day. */
    private static final class Year {
        final Row places = new Row(MOST_UMBRELLAS * MOST_DAYS);
        final Row strengths = new Row(MOST_UMBRELLAS * MOST_DAYS);
        final Row flocks = new Row(MOST_UMBRELLAS * MOST_DAYS);
        final Row fallen = new Row(MOST_UMBRELLAS);
        private final Row spots = new Row(MOST_UMBRELLAS);
        private final Row aims = new Row(MOST_UMBRELLAS);
        private final Row left = new Row(MOST_UMBRELLAS);
        private Flight told;
        private Plan plan;
        /** The latest draw; NONE in a year without draws. */
        int seed = NONE;

        Year(Flight flight, Plan how) {
            told = flight;
            plan = how;
        }

        static int cell(int u, int day) {
            return day * MOST_UMBRELLAS + u;
        }

        void pass(Flight flight, Plan how, int bySeed) {
            told = flight;
            plan = how;
            seed = bySeed;
            fallen.fill(WITHOUT);
            spots.copy(0, told.homes, 0, MOST_UMBRELLAS);
            left.copy(0, plan.cells, 0, MOST_UMBRELLAS);
            for (int day = 0; day < told.days(); day++) {
                passDay(day);
            }
        }

        int arrivals() {
            int bits = 0;
            for (int u = 0; u < told.umbrellas(); u++) {
                int spot = spots.look(u);
                bits |= spot >= 0 && told.sorts.look(spot) == SOUTH ? 1 << u : 0;
            }
            return bits;
        }

        /** Flocks are formed ahead of all moves, for all of a day goes at once. */
        private void passDay(int day) {
            int all = told.umbrellas();
            for (int u = 0; u < all; u++) {
                aims.put(u, aimOf(u, day));
            }
            for (int u = 0; u < all; u++) {
                flocks.put(cell(u, day), flockOf(u, all));
            }
            for (int u = 0; u < all; u++) {
                if (aims.look(u) >= 0) {
                    move(u, day);
                }
                places.put(cell(u, day), spots.look(u));
                strengths.put(cell(u, day), left.look(u));
            }
        }

        private int aimOf(int u, int day) {
            boolean stays = told.kinds.look(u) == MISER || plan.isKept(u) || spots.look(u) < 0;
            return stays || plan.setsOutOf(u) < 0 ? NONE : Route.stopAt(plan.routeOf(u), day - plan.setsOutOf(u));
        }

        private int flockOf(int u, int all) {
            int bits = 0;
            for (int v = 0; v < all && aims.look(u) >= 0; v++) {
                bits |= aims.look(v) == aims.look(u) && spots.look(v) == spots.look(u) ? 1 << v : 0;
            }
            return bits;
        }

        private void move(int u, int day) {
            int from = spots.look(u);
            int to = aims.look(u);
            int cost = costOf(u, flocks.look(cell(u, day)) & ~(1 << u), told.windOf(from, to));
            if (left.look(u) < cost) {
                fallen.put(u, day);
                spots.put(u, WITHOUT);
                return;
            }
            left.add(u, -cost);
            spots.put(u, seed >= 0 && isLost(told.lossFor(u, from, to)) ? WITHOUT : to);
        }

        private int costOf(int u, int others, int wind) {
            int less = others == 0 ? 0 : 1;
            for (int v = 0; v < MOST_UMBRELLAS; v++) {
                if ((others >> v & 1) == 1 && told.kinds.look(v) == GOLF) {
                    less = 2;
                }
            }
            return Math.max(0, wind - less + (told.kinds.look(u) == FOLDING ? 1 : 0));
        }

        private boolean isLost(int loss) {
            seed = (75 * seed + 74) % 65537;
            return seed % 100 < loss;
        }
    }

    /** All ways out of each umbrella, in their order. */
    private static final class WaysOut {
        /** What all chances are told as parts of: a hundred for each of five ways. */
        static final long ALL_LOTS = 10000000000L;
        /**
         * More than there can ever be: with w ways left and m more to take there are at most
         * F(w, m) = the greatest of a * (1 + F(w - a, m - 1)) rows, and F(14, 5) is below 300.
         */
        private static final int MOST_OUT = 300;

        private final Row routes = new Row(MOST_UMBRELLAS * MOST_OUT);
        private final Row found = new Row(MOST_UMBRELLAS);

        void find(Flight told) {
            found.fill(0);
            for (int u = 0; u < told.umbrellas(); u++) {
                int home = told.homes.look(u);
                goOn(told, this, u, home, 0, 1 << home, 0);
            }
        }

        int foundFor(int u) {
            return found.look(u);
        }

        int routeOf(int u, int k) {
            return routes.look(u * MOST_OUT + k);
        }

        /** By the numbers of stops, and each row is told ahead of those that go on from it. */
        private static void goOn(Flight told, WaysOut out, int u, int from, int route, int been, int depth) {
            if (depth >= MOST_STOPS_FLOWN) {
                return;
            }
            for (int to = 0; to < told.stops(); to++) {
                if ((been >> to & 1) == 0 && told.windOf(from, to) >= 0) {
                    int longer = Route.with(route, depth, to);
                    if (told.sorts.look(to) == SOUTH) {
                        out.add(u, longer);
                    }
                    goOn(told, out, u, to, longer, been | 1 << to, depth + 1);
                }
            }
        }

        private void add(int u, int route) {
            int k = found.look(u);
            if (k < MOST_OUT) {
                routes.put(u * MOST_OUT + k, route);
                found.put(u, k + 1);
            }
        }

        static long lotOf(Flight told, int u, int route) {
            long lot = 1;
            int from = told.homes.look(u);
            for (int i = 0; i < MOST_STOPS_FLOWN; i++) {
                int to = Route.stopAt(route, i);
                lot *= to < 0 ? 100 : 100 - told.lossFor(u, from, to);
                from = to;
            }
            return lot;
        }
    }

    /** The days and ways out of one umbrella with which all its rings are right. */
    private static final class Fits {
        private final Row seen = new Row(MOST_STOPS * MOST_DAYS);
        private int of = NONE;
        private long mostLot;
        int total;
        int inSome;
        int inAll;
        int likely;
        int lookAt;
        int leftAtMost;

        void forget() {
            of = NONE;
        }

        void weigh(Flight told, WaysOut out, int u) {
            if (of == u) {
                return;
            }
            of = u;
            seen.fill(0);
            mostLot = -1;
            total = 0;
            inSome = 0;
            inAll = 255;
            likely = NONE;
            for (int day = 0; day < told.days(); day++) {
                for (int k = 0; k < out.foundFor(u); k++) {
                    if (isFit(told, u, day, out.routeOf(u, k))) {
                        add(told, u, day, k, out.routeOf(u, k));
                    }
                }
            }
            chooseLook(told);
        }

        private static boolean isFit(Flight told, int u, int setsOut, int route) {
            for (int r = 0; r < told.sizes.look(RINGS); r++) {
                int place = placeOf(told, u, setsOut, route, told.ringDays.look(r));
                if (told.ringOf.look(r) == u && place != told.ringStops.look(r)) {
                    return false;
                }
            }
            return true;
        }

        private static int placeOf(Flight told, int u, int setsOut, int route, int day) {
            if (day < setsOut) {
                return told.homes.look(u);
            }
            return Route.stopAt(route, Math.min(day - setsOut, Route.ways(route) - 1));
        }

        private void add(Flight told, int u, int setsOut, int k, int route) {
            int stops = 0;
            for (int i = 0; i < Route.ways(route); i++) {
                stops |= 1 << Route.stopAt(route, i);
            }
            total++;
            inSome |= stops;
            inAll &= stops;
            long lot = WaysOut.lotOf(told, u, route);
            if (lot > mostLot) {
                mostLot = lot;
                likely = 1000 * setsOut + k;
            }
            for (int day = 0; day < told.days(); day++) {
                seen.add(placeOf(told, u, setsOut, route, day) * MOST_DAYS + day, 1);
            }
        }

        private void chooseLook(Flight told) {
            lookAt = NONE;
            leftAtMost = total + 1;
            for (int s = 0; s < told.stops(); s++) {
                for (int day = 0; day < told.days(); day++) {
                    int there = seen.look(s * MOST_DAYS + day);
                    int most = Math.max(there, total - there);
                    if (most < leftAtMost) {
                        leftAtMost = most;
                        lookAt = 100 * s + day;
                    }
                }
            }
        }
    }

    /** What goes on in the halls: who is wet, and who comes home by exchanges. */
    private static final class Halls {
        private static final int ALL_SETS = 1 << MOST_UMBRELLAS;

        /**
         * For each set of umbrellas: the most rounds that can be closed within it, a round being some of which
         * each takes the next one's place.
         */
        private final Row rounds = new Row(ALL_SETS);

        static boolean isWet(Flight told, Plan now, int o, int day) {
            if (!told.isRainy(day) || !told.isOut(o, day)) {
                return false;
            }
            int hall = told.ownHalls.look(o);
            return outIn(told, hall, day, o) >= keptIn(told, now, hall);
        }

        static int pinsOf(Flight told, int hall) {
            int most = 0;
            for (int day = 0; day < told.days(); day++) {
                if (told.isRainy(day)) {
                    most = Math.max(most, outIn(told, hall, day, told.owners()));
                }
            }
            return most;
        }

        static int atHomeIn(Flight told, int hall) {
            int there = 0;
            for (int u = 0; u < told.umbrellas(); u++) {
                there += told.homes.look(u) == hall ? 1 : 0;
            }
            return there;
        }

        private static int keptIn(Flight told, Plan now, int hall) {
            int there = 0;
            for (int u = 0; u < told.umbrellas(); u++) {
                boolean stays = now.isKept(u) || told.kinds.look(u) == MISER;
                there += stays && told.homes.look(u) == hall ? 1 : 0;
            }
            return there;
        }

        /** How many owners of a hall, of those ahead of one, are out on a day. */
        private static int outIn(Flight told, int hall, int day, int ahead) {
            int owners = 0;
            for (int o = 0; o < ahead; o++) {
                owners += told.ownHalls.look(o) == hall && told.isOut(o, day) ? 1 : 0;
            }
            return owners;
        }

        /** A round of r umbrellas takes r less 1 exchanges: so it's fewest with the most rounds. */
        int fewestExchanges(Flight told) {
            int all = 0;
            for (int u = 0; u < told.umbrellas(); u++) {
                all |= told.backAt.look(u) >= 0 ? 1 << u : 0;
            }
            if (!isEven(told, all)) {
                return WITHOUT;
            }
            rounds.put(0, 0);
            for (int set = 1; set <= all; set++) {
                if ((set & ~all) == 0) {
                    rounds.put(set, roundsOf(set) + (isEven(told, set) ? 1 : 0));
                }
            }
            return Integer.bitCount(all) - rounds.look(all);
        }

        /** The most rounds that are closed ahead of the last umbrella of a set. */
        private int roundsOf(int set) {
            int most = 0;
            for (int u = 0; u < MOST_UMBRELLAS; u++) {
                if ((set >> u & 1) == 1) {
                    most = Math.max(most, rounds.look(set & ~(1 << u)));
                }
            }
            return most;
        }

        /** Whether as many of a set are back in each hall as are at home there. */
        private static boolean isEven(Flight told, int set) {
            long more = 0;
            for (int u = 0; u < MOST_UMBRELLAS; u++) {
                if ((set >> u & 1) == 1) {
                    // four bits for each hall: with six umbrellas no sum of one hall can hide another's
                    more += 1L << 4 * told.backAt.look(u);
                    more -= 1L << 4 * told.homes.look(u);
                }
            }
            return more == 0;
        }
    }
}
