/** Terms II, and promises 6 to 18 and 48: each sentence that names an edge, by a test of its own. */
public final class YearEdgesTest {
    private static final String MAP = "flight days # grows 0 room 9;stop h hall;stop s strait;stop z south;stop k hall;"
        + "way h s wind 2 loss 0;way s z wind 3 loss 0;way s h wind 1 loss 0;way h z wind 5 loss 7;way k z wind 5 loss 0;"
        + "way z h wind 0 loss 0";
    private static final int H = 0;
    private static final int S = 1;
    private static final int Z = 2;
    private static final int NOWHERE = -2;
    private static final int[] FAR = {-1, Integer.MIN_VALUE, Integer.MAX_VALUE, 100};

    /** Umbrellas a, b and so on; what is told of each: kind, strong, home, and where it flies, if it does. */
    private static UmbrellaFlight year(int days, String... umbrellas) {
        StringBuilder text = new StringBuilder(MAP.replace("#", "" + days));
        for (int u = 0; u < umbrellas.length; u++) {
            String[] parts = umbrellas[u].split(" ");
            char name = (char) ('a' + u);
            text.append(";umbrella ").append(name).append(' ').append(parts[0]).append(" strong ").append(parts[1])
                .append(" home ").append(parts[2]);
            if (parts.length > 3) {
                text.append(";flies ").append(name).append(' ').append(parts[3]).append(' ').append(parts[4]);
            }
        }
        return Check.told(text.toString(), umbrellas.length);
    }

    private static void places(UmbrellaFlight x, int u, int... due) {
        for (int day = 0; day < due.length; day++) {
            Check.fine(x, "at(" + u + ", " + day + ")", x.at(u, day), due[day]);
        }
    }

    private static void strengths(UmbrellaFlight x, int u, int... due) {
        for (int day = 0; day < due.length; day++) {
            Check.fine(x, "strength(" + u + ", " + day + ")", x.strength(u, day), due[day]);
        }
    }

    private static void flocks(UmbrellaFlight x, int u, int... due) {
        for (int day = 0; day < due.length; day++) {
            Check.fine(x, "flock(" + u + ", " + day + ")", x.flock(u, day), due[day]);
        }
    }

    // ---- terms II

    private static void days() {
        Check.sentence("II: A YEAR, day by day, from day 0 up to days less 1");
        UmbrellaFlight x = year(2, "black 9 h 0 s,z");
        places(x, 0, S, Z);
        Check.fine(x, "arrived on the last day", x.arrived(), 1);
        x = year(2, "black 9 h 1 s,z");
        places(x, 0, H, S);
        strengths(x, 0, 9, 7);
        Check.fine(x, "no day is left for the second way", x.arrived(), 0);
        x = year(20, "black 9 h 19 z");
        Check.fine(x, "at on 18", x.at(0, 18), H);
        Check.fine(x, "at on 19", x.at(0, 19), Z);
        Check.fine(x, "arrived", x.arrived(), 1);
    }

    private static void homeTillItSetsOut() {
        Check.sentence("II: An umbrella is at home till the day on which it sets out; on that day it takes the first way");
        UmbrellaFlight x = year(4, "black 9 h 2 z", "lady 9 k 0 z", "golf 9 k");
        places(x, 0, H, H, Z, Z);
        strengths(x, 0, 9, 9, 4, 4);
        flocks(x, 0, 0, 0, 1, 0);
        places(x, 1, Z, Z, Z, Z);
        places(x, 2, 3, 3, 3, 3);
    }

    private static void oneWayEachDay() {
        Check.sentence("II: on the next one the second, and so on; then it stays where it is");
        UmbrellaFlight x = year(8, "black 30 h 1 s,h,s,h,z");
        places(x, 0, H, S, H, S, H, Z, Z, Z);
        strengths(x, 0, 30, 28, 27, 25, 24, 19, 19, 19);
        flocks(x, 0, 0, 1, 1, 1, 1, 1, 0, 0);
        x = year(4, "black 30 h 0 s");
        places(x, 0, S, S, S, S);
        Check.fine(x, "a strait is no south", x.arrived(), 0);
    }

    private static void misersStay() {
        Check.sentence("II: A miser never sets out");
        UmbrellaFlight x = year(3, "miser 9 h 0 z", "black 9 h 0 z");
        places(x, 0, H, H, H);
        strengths(x, 0, 9, 9, 9);
        flocks(x, 0, 0, 0, 0);
        Check.fine(x, "the other one flies alone", x.flock(1, 0), 2);
        Check.fine(x, "at its whole cost", x.strength(1, 0), 4);
        Check.fine(x, "arrived", x.arrived(), 2);
        Check.fine(x, "falls", x.falls(0), -2);
    }

    private static void keptOnesStay() {
        Check.sentence("II: nor one that is KEPT");
        UmbrellaFlight x = year(3, "golf 9 h 0 z", "black 9 h 0 z");
        Check.fine(x, "together", x.strength(1, 0), 6);
        Check.fine(x, "keep", x.keep(0, true));
        places(x, 0, H, H, H);
        strengths(x, 0, 9, 9, 9);
        flocks(x, 0, 0, 0, 0);
        Check.fine(x, "the other one flies alone", x.flock(1, 0), 2);
        Check.fine(x, "at its whole cost", x.strength(1, 0), 4);
        Check.fine(x, "arrived", x.arrived(), 2);
        Check.fine(x, "keep the other one", x.keep(1, true));
        Check.fine(x, "arrived", x.arrived(), 0);
        Check.fine(x, "wedge", x.wedge(), 0);
    }

    private static void flock() {
        Check.sentence("II: FLOCK: all that take one way on one day");
        UmbrellaFlight x = year(3, "black 9 h 0 z", "black 9 h 1 z", "black 9 k 0 z", "black 9 h 0 s,z", "black 9 h 0 z,h");
        Check.fine(x, "from one stop to one stop", x.flock(0, 0), 17);
        Check.fine(x, "on another day", x.flock(1, 1), 2);
        Check.fine(x, "from another stop", x.flock(2, 0), 4);
        Check.fine(x, "to another stop", x.flock(3, 0), 8);
        Check.fine(x, "on one day to one stop, from others", x.flock(3, 1), 8);
        Check.fine(x, "back by another way", x.flock(4, 1), 16);
        strengths(x, 0, 5);
        strengths(x, 2, 4);
        strengths(x, 3, 7, 4);
        x = year(3, "black 9 h 0 s,h", "black 9 h 1 s");
        Check.fine(x, "there and back are two ways", x.flock(0, 1), 1);
        Check.fine(x, "there and back are two ways", x.flock(1, 1), 2);
    }

    private static void flockOnLaterWays() {
        Check.sentence("II: FLOCK: all that take one way on one day, whichever it is of their ways");
        UmbrellaFlight x = year(6, "black 30 h 0 s,h,s", "golf 30 h 2 s", "lady 30 h 2 s,z");
        flocks(x, 0, 1, 1, 7, 0);
        flocks(x, 1, 0, 0, 7, 0);
        flocks(x, 2, 0, 0, 7, 4);
    }

    /** By one wind: what is told of each is its kind and its cost. */
    private static void costs(int wind, String... kindsAndCosts) {
        StringBuilder text = new StringBuilder("flight days 2 grows 0 room 9;stop h hall;stop z south;way h z wind " + wind
            + " loss 0");
        for (int u = 0; u < kindsAndCosts.length; u++) {
            char name = (char) ('a' + u);
            text.append(";umbrella ").append(name).append(' ').append(kindsAndCosts[u].split(" ")[0])
                .append(" strong 20 home h;flies ").append(name).append(" 0 z");
        }
        UmbrellaFlight x = Check.told(text.toString(), kindsAndCosts.length);
        for (int u = 0; u < kindsAndCosts.length; u++) {
            int cost = Integer.parseInt(kindsAndCosts[u].split(" ")[1]);
            Check.fine(x, "strength of " + u + " by wind " + wind, x.strength(u, 0), 20 - cost);
        }
    }

    private static void costAlone() {
        Check.sentence("II: COST of a way for one: its wind");
        costs(0, "black 0");
        costs(9, "black 9");
        costs(5, "golf 5");
        costs(5, "lady 5");
        costs(5, "black 5", "miser 0");
    }

    private static void costWithAnother() {
        Check.sentence("II: one less if another one is in its FLOCK");
        costs(5, "black 4", "lady 4");
        costs(1, "black 0", "lady 0");
        costs(5, "black 4", "lady 4", "lady 4");
        costs(9, "black 8", "black 8", "black 8", "black 8", "black 8", "black 8");
    }

    private static void costWithGolf() {
        Check.sentence("II: or two less if a golf one is (another one than itself)");
        costs(5, "black 3", "golf 4");
        costs(5, "golf 4", "black 3");
        costs(5, "golf 3", "golf 3");
        costs(5, "golf 3", "golf 3", "golf 3");
        costs(9, "black 7", "black 7", "lady 7", "black 7", "black 7", "golf 8");
        costs(9, "golf 8", "black 7", "lady 7", "black 7", "black 7", "black 7");
    }

    private static void costOfFolding() {
        Check.sentence("II: a folding one's one more");
        costs(0, "folding 1");
        costs(9, "folding 10");
        costs(5, "folding 5", "black 4");
        costs(5, "folding 4", "golf 4");
        costs(5, "folding 5", "folding 5");
    }

    private static void costAtLeast() {
        Check.sentence("II: 0 at least");
        costs(0, "black 0", "lady 0");
        costs(0, "black 0", "golf 0");
        costs(1, "black 0", "golf 0");
        costs(2, "black 0", "golf 1");
        costs(0, "folding 0", "black 0");
        costs(0, "folding 0", "golf 0");
        costs(1, "folding 0", "golf 0");
        costs(2, "folding 1", "golf 1");
    }

    private static void asStrong() {
        Check.sentence("II: If it is as strong, it is so much less strong, and at the end of the way");
        UmbrellaFlight x = year(3, "black 5 h 0 z", "golf 0 h", "black 5 h 1 s,z", "lady 0 h");
        strengths(x, 0, 0, 0, 0);
        places(x, 0, Z, Z, Z);
        strengths(x, 2, 5, 3, 0);
        places(x, 2, H, S, Z);
        Check.fine(x, "arrived", x.arrived(), 5);
        Check.fine(x, "falls", x.falls(0), -2);
        x = year(3, "black 0 h 0 z");
        Check.fine(x, "with nothing by wind 5", x.falls(0), 0);
        x = year(3, "black 5 h 0 z,h");
        Check.fine(x, "with nothing by wind 0", x.at(0, 1), H);
    }

    private static void falling() {
        Check.sentence("II: else it FALLS: it is nowhere from that day on");
        UmbrellaFlight x = year(4, "black 4 h 1 z,h,z", "lady 4 h 0 s,z,h");
        places(x, 0, H, NOWHERE, NOWHERE, NOWHERE);
        strengths(x, 0, 4, 4, 4, 4);
        flocks(x, 0, 0, 1, 0, 0);
        Check.fine(x, "falls", x.falls(0), 1);
        places(x, 1, S, NOWHERE, NOWHERE, NOWHERE);
        strengths(x, 1, 2, 2, 2, 2);
        flocks(x, 1, 2, 2, 0, 0);
        Check.fine(x, "falls", x.falls(1), 1);
        Check.fine(x, "arrived", x.arrived(), 0);
    }

    private static void allAtOnce() {
        Check.sentence("II: (All of a day at once; one that FALLS is of that FLOCK, too.)");
        for (int golf = 0; golf < 2; golf++) {
            String[] both = {"black 3 h 0 z", "black 3 h 0 z"};
            both[golf] = "golf 3 h 0 z";
            UmbrellaFlight x = year(3, both);
            Check.fine(x, "the golf one falls", x.falls(golf), 0);
            Check.fine(x, "the other one gains by it", x.strength(1 - golf, 0), 0);
            Check.fine(x, "and arrives", x.arrived(), 2 - golf);
            Check.fine(x, "flock of the fallen", x.flock(golf, 0), 3);
            Check.fine(x, "flock of the other one", x.flock(1 - golf, 0), 3);
        }
        UmbrellaFlight x = year(4, "golf 2 h 0 s,z", "golf 2 h 1 s,z", "black 5 h 0 s,z");
        Check.fine(x, "one that fell ahead is of no flock", x.flock(2, 1), 5);
        Check.fine(x, "nor is one that is a day behind", x.strength(2, 1), 4);
    }

    private static void arriving() {
        Check.sentence("II: ARRIVED: in the south behind all days");
        UmbrellaFlight x = year(3, "black 9 h 0 z,h", "black 9 h 1 z,h", "black 9 h 2 z,h", "black 9 h 0 s", "black 9 h 0 z",
            "miser 9 h");
        Check.fine(x, "not one that flew on, nor one that stays", x.arrived(), 20);
        x = year(2, "black 9 h 0 z,h", "black 9 h 1 z,h");
        Check.fine(x, "on the last day", x.arrived(), 2);
        x = Check.told("flight days 2 grows 0 room 9;stop z south;stop h hall;way h z wind 1 loss 1;"
            + "umbrella a black strong 1 home h;umbrella b black strong 0 home h;flies a 0 z;flies b 1 z", 2);
        Check.fine(x, "in the first stop told, and nowhere", x.arrived(), 1);
    }

    private static void fullYear() {
        Check.sentence("II: ARRIVED, FLOCK: of all six");
        UmbrellaFlight x = year(2, "black 9 h 1 z", "black 9 h 1 z", "black 9 h 1 z", "black 9 h 1 z", "black 9 h 1 z",
            "black 9 h 1 z");
        Check.fine(x, "arrived", x.arrived(), 63);
        Check.fine(x, "flock", x.flock(5, 1), 63);
        Check.fine(x, "wedge", x.wedge(), 6);
        Check.fine(x, "many", x.many(Z, 1), 6);
        Check.fine(x, "many at home", x.many(H, 0), 6);
        Check.fine(x, "strongest", x.strongest(), 0);
    }

    private static void rightRings() {
        Check.sentence("II: A RING is RIGHT if the umbrella is at that stop behind that day");
        String text = Check.MAP;
        Check.fine(Check.told(text, 5), "no ring", Check.told(text, 5).judge(), -2);
        for (String right : new String[] {"a h 0", "a s 1", "a z 2", "a z 5", "d k 5", "e h 0"}) {
            UmbrellaFlight x = Check.told(text + ";ring " + right, 5);
            Check.fine(x, "ring " + right, x.judge(), -2);
        }
        for (String wrong : new String[] {"a s 0", "a h 1", "a z 1", "a s 2", "d h 5", "e h 1", "e z 1", "e z 5"}) {
            UmbrellaFlight x = Check.told(text + ";ring " + wrong, 5);
            Check.fine(x, "ring " + wrong, x.judge(), 0);
        }
    }

    // ---- promises 6 to 9

    private static void stop() {
        Check.sentence("6: NONE: 1.");
        UmbrellaFlight x = year(2, "black 1 h");
        int[] sorts = {0, 1, 2, 0};
        for (int s = 0; s < 4; s++) {
            Check.fine(x, "stop(" + s + ")", x.stop(s), sorts[s]);
        }
        Check.refused(x, "stop(4)", x.stop(4), -1, 1);
        Check.refused(x, "stop(7)", x.stop(7), -1, 1);
        for (int s : FAR) {
            Check.refused(x, "stop(" + s + ")", x.stop(s), -1, 1);
        }
    }

    private static void wayWithoutOne() {
        Check.sentence("7: -2 without one");
        UmbrellaFlight x = year(2, "black 1 h");
        for (int what = 0; what <= 1; what++) {
            Check.fine(x, "h to h", x.way(0, 0, what), -2);
            Check.fine(x, "z to s", x.way(2, 1, what), -2);
            Check.fine(x, "z to k", x.way(2, 3, what), -2);
            Check.fine(x, "h to k", x.way(0, 3, what), -2);
            Check.fine(x, "a way that is without wind and loss", x.way(2, 0, what), 0);
        }
        Check.fine(x, "wind of h to z", x.way(0, 2, 0), 5);
        Check.fine(x, "loss of h to z", x.way(0, 2, 1), 7);
        x = Check.told(Check.ONE + ";way z h wind 0 loss 50", 1);
        Check.fine(x, "wind 0", x.way(1, 0, 0), 0);
        Check.fine(x, "loss by wind 0", x.way(1, 0, 1), 50);
    }

    private static void wayRefused() {
        Check.sentence("7: NONE: 1.");
        UmbrellaFlight x = year(2, "black 1 h");
        for (int wrong : new int[] {-1, 4, 7, 8, Integer.MIN_VALUE, Integer.MAX_VALUE}) {
            Check.refused(x, "way from " + wrong, x.way(wrong, 2, 0), -1, 1);
            Check.refused(x, "way to " + wrong, x.way(0, wrong, 0), -1, 1);
            Check.refused(x, "way of what " + wrong, x.way(0, 2, wrong), -1, 1);
        }
        Check.refused(x, "way of what 2", x.way(0, 2, 2), -1, 1);
        Check.refused(x, "way of what 2, without one", x.way(2, 1, 2), -1, 1);
    }

    private static void umbrella() {
        Check.sentence("8: Of an umbrella 0 .. 5");
        UmbrellaFlight x = year(4, "black 0 h 0 s,z", "golf 1 k 3 z", "lady 2 h 1 s,h,s,h,z", "folding 29 h", "miser 30 k");
        int[][] due = {{0, 0, 0, 0, 2, 0}, {1, 1, 3, 3, 1, 0}, {2, 2, 0, 1, 5, 0}, {3, 29, 0, -2, 0, 0}, {4, 30, 3, -2, 0, 0}};
        for (int u = 0; u < due.length; u++) {
            for (int what = 0; what < 6; what++) {
                Check.fine(x, "umbrella(" + u + ", " + what + ")", x.umbrella(u, what), due[u][what]);
            }
        }
    }

    private static void umbrellaNow() {
        Check.sentence("8: strong NOW, sets out NOW (-2 it doesn't fly), 5 1 if it is KEPT");
        UmbrellaFlight x = year(4, "black 0 h 1 s,z", "lady 9 h");
        Check.fine(x, "mend", x.mend(0), 1);
        Check.fine(x, "send", x.send(0, 1, 0));
        Check.fine(x, "keep", x.keep(0, true));
        int[] due = {0, 1, 0, 0, 1, 1};
        for (int what = 0; what < 6; what++) {
            Check.fine(x, "umbrella(0, " + what + ")", x.umbrella(0, what), due[what]);
        }
        Check.fine(x, "it doesn't fly", x.umbrella(1, 3), -2);
        Check.fine(x, "send", x.send(1, 0, 3));
        Check.fine(x, "now it does", x.umbrella(1, 3), 3);
        Check.fine(x, "strong is as at first, not behind the year", x.umbrella(1, 1), 9);
    }

    private static void umbrellaRefused() {
        Check.sentence("8: NONE: 1.");
        UmbrellaFlight x = year(4, "black 0 h 0 s,z", "lady 9 h");
        for (int wrong : FAR) {
            Check.refused(x, "umbrella " + wrong, x.umbrella(wrong, 0), -1, 1);
            Check.refused(x, "of what " + wrong, x.umbrella(0, wrong), -1, 1);
        }
        Check.refused(x, "umbrella 2", x.umbrella(2, 0), -1, 1);
        Check.refused(x, "of what 6", x.umbrella(1, 6), -1, 1);
    }

    private static void flies() {
        Check.sentence("9: The i-th (0: the first) stop it flies to NOW. NONE: 1.");
        UmbrellaFlight x = year(4, "black 0 h 0 s,h,s,h,z", "lady 9 h 3 z", "golf 9 h");
        int[] due = {S, H, S, H, Z};
        for (int i = 0; i < 5; i++) {
            Check.fine(x, "flies(0, " + i + ")", x.flies(0, i), due[i]);
        }
        Check.fine(x, "flies(1, 0)", x.flies(1, 0), Z);
        Check.refused(x, "flies(0, 5)", x.flies(0, 5), -1, 1);
        Check.refused(x, "flies(1, 1)", x.flies(1, 1), -1, 1);
        Check.refused(x, "flies(2, 0)", x.flies(2, 0), -1, 1);
        Check.refused(x, "flies(3, 0)", x.flies(3, 0), -1, 1);
        for (int wrong : FAR) {
            Check.refused(x, "flies(" + wrong + ", 0)", x.flies(wrong, 0), -1, 1);
            Check.refused(x, "flies(0, " + wrong + ")", x.flies(0, wrong), -1, 1);
        }
        Check.fine(x, "send", x.send(0, 1, 0));
        Check.fine(x, "another way out", x.flies(0, 0), Z);
        Check.refused(x, "has but one stop", x.flies(0, 1), -1, 1);
    }

    // ---- promises 10 to 18, and 48

    /** What is asked of an umbrella and a day (of a stop and a day): how many there are, and four days. */
    private static void refusedByDay(int which, int first, int several) {
        UmbrellaFlight x = year(4, "black 9 h 0 z", "lady 9 h 1 z");
        Calls.ask(x, which, 0, 0, 0);
        Check.due("the first one on the first day", x.trouble(), 0);
        Check.fine(x, "the last one on the last day", Calls.ask(x, which, several - 1, 3, 0), first);
        for (int wrong : new int[] {-1, several, 6, 8, Integer.MIN_VALUE, Integer.MAX_VALUE}) {
            Check.refused(x, "of " + wrong, Calls.ask(x, which, wrong, 0, 0), -1, 1);
            Check.refused(x, "of " + wrong + " on 4", Calls.ask(x, which, wrong, 4, 0), -1, 1);
        }
        for (int wrong : new int[] {-1, 4, 19, 20, Integer.MIN_VALUE, Integer.MAX_VALUE}) {
            Check.refused(x, "on " + wrong, Calls.ask(x, which, 0, wrong, 0), -1, 2);
        }
    }

    private static void atRefused() {
        Check.sentence("10: NONE: 1; 2.");
        refusedByDay(10, Z, 2);
    }

    private static void strengthRefused() {
        Check.sentence("11: NONE: 1; 2.");
        refusedByDay(11, 4, 2);
    }

    private static void flockRefused() {
        Check.sentence("12: NONE: 1; 2.");
        refusedByDay(12, 0, 2);
    }

    private static void manyRefused() {
        Check.sentence("15: NONE: 1; 2.");
        refusedByDay(15, 0, 4);
    }

    private static void atNowhere() {
        Check.sentence("10: -2 nowhere");
        UmbrellaFlight x = year(3, "black 4 h 0 z", "black 4 h 2 z");
        places(x, 0, -2, -2, -2);
        places(x, 1, H, H, -2);
    }

    private static void strengthAsItFell() {
        Check.sentence("11: (as it fell, if it did)");
        UmbrellaFlight x = year(3, "black 4 h 0 s,z", "black 0 h 1 z");
        strengths(x, 0, 2, 2, 2);
        strengths(x, 1, 0, 0, 0);
    }

    private static void flockOfNone() {
        Check.sentence("12: 0 if it takes no way");
        UmbrellaFlight x = year(5, "black 9 h 1 s,z", "black 2 h 0 s,z", "miser 9 h 1 s", "lady 9 h", "golf 9 k 4 z");
        flocks(x, 0, 0, 1, 1, 0, 0);
        flocks(x, 1, 2, 2, 0, 0, 0);
        flocks(x, 2, 0, 0, 0, 0, 0);
        flocks(x, 3, 0, 0, 0, 0, 0);
        flocks(x, 4, 0, 0, 0, 0, 16);
    }

    private static void falls() {
        Check.sentence("13: The day on which it FALLS; -2. NONE: 1.");
        UmbrellaFlight x = year(3, "black 4 h 0 z", "black 4 h 2 z", "black 2 h 0 s,z", "black 5 h 1 z", "black 5 h");
        int[] due = {0, 2, 1, -2, -2};
        for (int u = 0; u < due.length; u++) {
            Check.fine(x, "falls(" + u + ")", x.falls(u), due[u]);
        }
        Check.refused(x, "falls(5)", x.falls(5), -1, 1);
        for (int wrong : FAR) {
            Check.refused(x, "falls(" + wrong + ")", x.falls(wrong), -1, 1);
        }
    }

    private static void arrivedNone() {
        Check.sentence("14: ARRIVED, as bits: none and the last");
        UmbrellaFlight x = year(3, "black 5 h", "black 4 h 0 z", "black 9 h 0 s", "miser 9 h 0 z", "black 9 h 2 s,z");
        Check.fine(x, "none", x.arrived(), 0);
        Check.fine(x, "strongest of none", x.strongest(), -2);
        x = year(3, "black 5 h", "black 5 h", "black 5 h", "black 5 h", "black 5 h", "black 5 h 2 z");
        Check.fine(x, "the last one", x.arrived(), 32);
    }

    private static void many() {
        Check.sentence("15: How many are at a stop behind a day");
        UmbrellaFlight x = year(4, "black 9 h 0 s,z", "black 9 h 1 s", "black 1 h 2 z", "miser 0 h", "golf 9 k 3 z");
        int[][] due = {{3, 2, 1, 1}, {1, 1, 1, 1}, {0, 1, 1, 2}, {1, 1, 1, 0}};
        for (int s = 0; s < 4; s++) {
            for (int day = 0; day < 4; day++) {
                Check.fine(x, "many(" + s + ", " + day + ")", x.many(s, day), due[s][day]);
            }
        }
    }

    private static void wedge() {
        Check.sentence("16: The most that ever are in one FLOCK");
        UmbrellaFlight x = year(3, "black 9 h", "miser 9 h 0 z");
        Check.fine(x, "none flies", x.wedge(), 0);
        x = year(3, "black 9 h 0 z", "black 9 h 1 z", "black 9 k 0 z");
        Check.fine(x, "each alone", x.wedge(), 1);
        x = year(3, "black 9 h 2 z", "black 9 h 2 z", "black 9 h 0 z");
        Check.fine(x, "on the last day", x.wedge(), 2);
        x = year(3, "black 9 h 0 z", "black 9 h 0 z", "black 0 h 0 z", "golf 9 h 1 z");
        Check.fine(x, "on the first day, one that falls, too", x.wedge(), 3);
        x = year(3, "black 9 h 1 z", "black 9 h 1 z", "black 0 h 0 z", "golf 9 h 1 z", "golf 9 h 1 z", "golf 9 h 2 z");
        Check.fine(x, "on a day between", x.wedge(), 4);
    }

    private static void strongest() {
        Check.sentence("17: STRONGEST: of those that ARRIVED the strongest, the first such; -2");
        UmbrellaFlight x = year(3, "black 30 h", "black 5 h 0 z", "black 5 h 1 z");
        Check.fine(x, "with nothing left, the first such", x.strongest(), 1);
        x = year(3, "black 7 h 0 z", "black 9 h 1 z", "black 9 k 1 z", "black 30 h 0 z,h");
        Check.fine(x, "a later one, the first such", x.strongest(), 1);
        x = year(3, "black 8 h 0 z", "black 9 h 2 s,z");
        Check.fine(x, "not one that hasn't arrived", x.strongest(), 0);
        x = year(3, "black 9 h 2 z", "black 8 k 0 z", "black 7 h 2 z");
        Check.fine(x, "as strong as behind the last day", x.strongest(), 0);
        x = year(2, "lady 9 h 1 z", "black 7 k 0 z");
        Check.fine(x, "as strong as behind the last day", x.strongest(), 0);
        x = year(2, "lady 8 h 1 z", "black 9 k 0 z");
        Check.fine(x, "not as ahead of it", x.strongest(), 1);
        x = year(2, "lady 30 h 1 s,z", "black 4 k 0 z");
        Check.fine(x, "-2", x.strongest(), -2);
    }

    private static void judge() {
        Check.sentence("18: The first RING that isn't RIGHT; -2");
        String text = Check.MAP;
        UmbrellaFlight x = Check.told(text, 5);
        Check.fine(x, "without rings", x.judge(), -2);
        x = Check.told(text + ";ring a s 1;ring a h 0;ring d k 0", 5);
        Check.fine(x, "all right", x.judge(), -2);
        x = Check.told(text + ";ring a h 1;ring a s 1;ring a h 1", 5);
        Check.fine(x, "the first", x.judge(), 0);
        x = Check.told(text + ";ring a s 1;ring a h 1;ring a h 1", 5);
        Check.fine(x, "the second", x.judge(), 1);
        String rights = ";ring a s 1".repeat(7);
        x = Check.told(text + rights + ";ring a h 5", 5);
        Check.fine(x, "the last", x.judge(), 7);
        Check.fine(x, "by how all is now", x.keep(0, true));
        Check.fine(x, "the first", x.judge(), 0);
    }

    private static void led() {
        Check.sentence("48: The i-th (0: the first), by numbers, that FALLS");
        UmbrellaFlight x = year(3, "black 4 h 2 z", "black 9 h 0 z", "black 4 k 0 z", "miser 0 h 0 z", "black 1 h 1 s",
            "lady 9 h");
        int[] due = {0, 2, 4};
        for (int i = 0; i < due.length; i++) {
            Check.due("led(" + i + ")", Check.led(x, i), due[i]);
        }
        x = year(2, "black 0 h 1 z", "black 0 h 1 z", "black 0 h 1 z", "black 0 h 1 z", "black 0 h 1 z", "black 0 h 1 z");
        Check.due("led(5) of all six", Check.led(x, 5), 5);
        Check.due("led(6) of all six", Check.led(x, 6), -3);
    }

    private static void ledByNone() {
        Check.sentence("48: NoSuchElementException if there is none such");
        UmbrellaFlight x = year(3, "black 4 h 2 z", "black 9 h 0 z");
        for (int i : new int[] {-1, 1, 2, 6, Integer.MIN_VALUE, Integer.MAX_VALUE}) {
            Check.due("led(" + i + ")", Check.led(x, i), -3);
        }
        x = year(3, "black 9 h 0 z");
        Check.due("led(0), none falls", Check.led(x, 0), -3);
        Check.due("led(-1), none falls", Check.led(x, -1), -3);
        x = year(3, "black 4 h 0 z");
        Check.due("led(0)", Check.led(x, 0), 0);
        Check.fine(x, "keep", x.keep(0, true));
        Check.due("led(0) of one kept", Check.led(x, 0), -3);
    }

    private static void termsOfYears() {
        days();
        homeTillItSetsOut();
        oneWayEachDay();
        misersStay();
        keptOnesStay();
        flock();
        flockOnLaterWays();
        costAlone();
        costWithAnother();
        costWithGolf();
        costOfFolding();
        costAtLeast();
        asStrong();
        falling();
        allAtOnce();
        arriving();
        fullYear();
        rightRings();
    }

    public static void main(String[] args) {
        termsOfYears();
        stop();
        wayWithoutOne();
        wayRefused();
        umbrella();
        umbrellaNow();
        umbrellaRefused();
        flies();
        atNowhere();
        atRefused();
        strengthAsItFell();
        strengthRefused();
        flockOfNone();
        flockRefused();
        falls();
        arrivedNone();
        many();
        manyRefused();
        wedge();
        strongest();
        judge();
        led();
        ledByNone();
        Check.end();
    }
}
