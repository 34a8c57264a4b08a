/** Terms III, and promises 19 to 30: each sentence on ways out and what fits that names an edge, by a test of its own. */
public final class WaysEdgesTest {
    private static final String STOPS = "stop h hall;stop k hall;stop s strait;stop t strait;stop y south;stop z south";
    private static final int H = 0;
    private static final int K = 1;
    private static final int S = 2;
    private static final int T = 3;
    private static final int Y = 4;
    private static final int Z = 5;
    private static final int[] FAR = {-1, 6, Integer.MIN_VALUE, Integer.MAX_VALUE};

    /** Umbrella a has its home in h, b in k; what is told of each way: from, to, and its loss; its wind is 9. */
    private static String map(int days, String kind, String... ways) {
        StringBuilder text = new StringBuilder("flight days " + days + " grows 0 room 9;" + STOPS);
        for (String way : ways) {
            String[] parts = way.split(" ");
            text.append(";way ").append(parts[0]).append(' ').append(parts[1]).append(" wind 9 loss ").append(parts[2]);
        }
        return text + ";umbrella a " + kind + " strong 0 home h;umbrella b " + kind + " strong 0 home k";
    }

    private static UmbrellaFlight told(int days, String kind, String... ways) {
        return Check.told(map(days, kind, ways), 2);
    }

    private static void rows(UmbrellaFlight x, int u, int[]... rows) {
        Check.fine(x, "waysOut(" + u + ")", x.waysOut(u), rows.length);
        for (int k = 0; k < rows.length; k++) {
            for (int i = 0; i < rows[k].length; i++) {
                Check.fine(x, "wayOut(" + u + ", " + k + ", " + i + ")", x.wayOut(u, k, i), rows[k][i]);
            }
            Check.refused(x, "wayOut(" + u + ", " + k + ") behind its end", x.wayOut(u, k, rows[k].length), -1, 1);
        }
        Check.refused(x, "wayOut(" + u + ") behind the last", x.wayOut(u, rows.length, 0), -1, 1);
    }

    private static void chance(UmbrellaFlight x, int u, int k, long upper, long lower) {
        Check.fine(x, "chance(" + u + ", " + k + "), upper", x.chance(u, k, false), upper);
        Check.fine(x, "chance(" + u + ", " + k + "), lower", x.chance(u, k, true), lower);
    }

    // ---- ways out

    private static void homeToSouth() {
        Check.sentence("III: WAYS OUT: rows of stops from its home to a south");
        UmbrellaFlight x = told(2, "black", "h s 0", "s z 0", "z y 0", "h k 0", "k t 0");
        rows(x, 0, new int[] {H, S, Z}, new int[] {H, S, Z, Y});
        rows(x, 1);
        x = told(2, "black", "y z 0", "z h 0", "k z 0");
        rows(x, 0);
        rows(x, 1, new int[] {K, Z});
    }

    private static void noneTwice() {
        Check.sentence("III: none twice");
        UmbrellaFlight x = told(9, "black", "h s 0", "s h 0", "s t 0", "t s 0", "t z 0", "z t 0", "z h 0", "z y 0", "y z 0");
        rows(x, 0, new int[] {H, S, T, Z}, new int[] {H, S, T, Z, Y});
        x = told(9, "black", "h z 0", "z h 0", "z k 0", "k z 0", "k h 0", "h k 0");
        rows(x, 0, new int[] {H, K, Z}, new int[] {H, Z});
        rows(x, 1, new int[] {K, H, Z}, new int[] {K, Z});
    }

    private static void byWays() {
        Check.sentence("III: each with a way from the one ahead");
        UmbrellaFlight x = told(9, "black", "s h 0", "s z 0", "k s 0", "y k 0");
        rows(x, 0);
        rows(x, 1, new int[] {K, S, Z});
    }

    private static void fiveWays() {
        Check.sentence("III: of at most 5 ways");
        String[] chain = {"h k 1", "k s 1", "s t 1", "t y 1", "y z 1"};
        UmbrellaFlight x = told(2, "black", chain);
        rows(x, 0, new int[] {H, K, S, T, Y}, new int[] {H, K, S, T, Y, Z});
        rows(x, 1, new int[] {K, S, T, Y}, new int[] {K, S, T, Y, Z});
        x = Check.told(map(2, "black", chain).replace("stop y south", "stop y strait"), 2);
        rows(x, 0, new int[] {H, K, S, T, Y, Z});
        x = Check.told(map(2, "black", chain).replace("stop y south", "stop y strait")
            + ";stop x south;way z x wind 0 loss 0", 2);
        rows(x, 0, new int[] {H, K, S, T, Y, Z});
        rows(x, 1, new int[] {K, S, T, Y, Z}, new int[] {K, S, T, Y, Z, 6});
        x = Check.told(map(2, "black", chain).replace("south", "strait") + ";stop x south;way z x wind 0 loss 0", 2);
        rows(x, 0);
        rows(x, 1, new int[] {K, S, T, Y, Z, 6});
    }

    private static void inOrder() {
        Check.sentence("III: in order by the numbers of their stops (a shorter one ahead of what goes on from it)");
        UmbrellaFlight x = told(9, "black", "z y 0", "y z 0", "t z 0", "t y 0", "s z 0", "h z 0", "h y 0", "h t 0", "h s 0");
        rows(x, 0, new int[] {H, S, Z}, new int[] {H, S, Z, Y}, new int[] {H, T, Y}, new int[] {H, T, Y, Z},
            new int[] {H, T, Z}, new int[] {H, T, Z, Y}, new int[] {H, Y}, new int[] {H, Y, Z}, new int[] {H, Z},
            new int[] {H, Z, Y});
    }

    private static void waysOutOfAll() {
        Check.sentence("19: How many WAYS OUT it has (a miser, one KEPT or sent, likewise)");
        for (String kind : new String[] {"black", "miser"}) {
            UmbrellaFlight x = told(2, kind, "h z 0", "h y 0");
            Check.fine(x, "waysOut(0)", x.waysOut(0), 2);
            Check.fine(x, "keep", x.keep(0, true));
            Check.fine(x, "waysOut(0)", x.waysOut(0), 2);
            Check.fine(x, "send", x.send(0, 1, 1));
            Check.fine(x, "waysOut(0)", x.waysOut(0), 2);
            Check.fine(x, "waysOut(1), none", x.waysOut(1), 0);
        }
    }

    private static void waysOutRefused() {
        Check.sentence("19: NONE: 1.");
        UmbrellaFlight x = told(2, "black", "h z 0", "k z 0");
        Check.refused(x, "waysOut(2)", x.waysOut(2), -1, 1);
        for (int wrong : FAR) {
            Check.refused(x, "waysOut(" + wrong + ")", x.waysOut(wrong), -1, 1);
        }
    }

    private static void wayOutRefused() {
        Check.sentence("20: NONE: 1.");
        UmbrellaFlight x = told(2, "black", "h s 0", "s z 0", "h y 0");
        Check.fine(x, "its home", x.wayOut(0, 1, 0), H);
        Check.fine(x, "its last stop", x.wayOut(0, 1, 1), Y);
        Check.refused(x, "behind it", x.wayOut(0, 1, 2), -1, 1);
        Check.refused(x, "wayOut(0, 2, 0)", x.wayOut(0, 2, 0), -1, 1);
        Check.refused(x, "of one without ways out", x.wayOut(1, 0, 0), -1, 1);
        Check.refused(x, "of umbrella 2", x.wayOut(2, 0, 0), -1, 1);
        for (int wrong : FAR) {
            Check.refused(x, "wayOut(" + wrong + ", 0, 0)", x.wayOut(wrong, 0, 0), -1, 1);
            Check.refused(x, "wayOut(0, " + wrong + ", 0)", x.wayOut(0, wrong, 0), -1, 1);
            Check.refused(x, "wayOut(0, 0, " + wrong + ")", x.wayOut(0, 0, wrong), -1, 1);
        }
    }

    private static void chances() {
        Check.sentence("III: CHANCE: each loses as many in a hundred as told; 21: in lowest terms");
        UmbrellaFlight x = told(2, "black", "h y 0", "h s 50", "s t 50", "t z 0", "k z 1");
        chance(x, 0, 0, 1, 4);
        chance(x, 0, 1, 1, 1);
        chance(x, 1, 0, 99, 100);
        x = told(2, "golf", "h k 1", "k s 1", "s t 1", "t y 1", "y z 1");
        chance(x, 0, 0, 96059601, 100000000);
        chance(x, 0, 1, 9509900499L, 10000000000L);
        x = told(2, "miser", "h k 50", "k s 50", "s t 50", "t y 50", "y z 50");
        chance(x, 0, 1, 1, 32);
    }

    private static void ladiesChances() {
        Check.sentence("III: CHANCE: a lady twice as many");
        UmbrellaFlight x = told(2, "lady", "h y 25", "k z 49");
        chance(x, 0, 0, 1, 2);
        chance(x, 1, 0, 1, 50);
        x = told(2, "lady", "h k 1", "k s 1", "s t 1", "t y 1", "y z 1");
        chance(x, 0, 1, 282475249, 312500000);
        x = told(2, "lady", "h k 49", "k s 49", "s t 49", "t y 49", "y z 49");
        chance(x, 0, 1, 1, 312500000);
    }

    private static void noChance() {
        Check.sentence("21: (0 by 1)");
        UmbrellaFlight x = told(2, "lady", "h s 0", "s y 50", "k z 50");
        chance(x, 0, 0, 0, 1);
        chance(x, 1, 0, 0, 1);
    }

    private static void chanceRefused() {
        Check.sentence("21: -1: 1.");
        UmbrellaFlight x = told(2, "black", "h z 0", "h y 0");
        for (int i = 0; i < 2; i++) {
            Check.refused(x, "chance(0, 2)", x.chance(0, 2, i == 0), -1, 1);
            Check.refused(x, "chance(1, 0), none", x.chance(1, 0, i == 0), -1, 1);
            Check.refused(x, "chance(2, 0)", x.chance(2, 0, i == 0), -1, 1);
            for (int wrong : FAR) {
                Check.refused(x, "chance(" + wrong + ", 0)", x.chance(wrong, 0, i == 0), -1, 1);
                Check.refused(x, "chance(0, " + wrong + ")", x.chance(0, wrong, i == 0), -1, 1);
            }
        }
    }

    private static void bestWay() {
        Check.sentence("III: BEST WAY: of greatest CHANCE, the first such");
        UmbrellaFlight x = told(2, "black", "h s 20", "s z 50", "h t 50", "t z 20", "k z 3", "k y 3");
        Check.fine(x, "as great, by other losses", x.bestWay(0), 0);
        Check.fine(x, "as great", x.bestWay(1), 0);
        x = told(2, "black", "h s 20", "s z 50", "h t 50", "t z 19", "k z 3", "k y 4");
        Check.fine(x, "a little greater", x.bestWay(0), 1);
        Check.fine(x, "a little greater", x.bestWay(1), 1);
        x = told(2, "lady", "h s 50", "s z 0", "h t 50", "t z 0", "k s 0", "k t 49");
        Check.fine(x, "none has any", x.bestWay(0), 0);
        Check.fine(x, "one has some, behind one that has all", x.bestWay(1), 0);
        x = told(2, "lady", "h y 50", "h z 49", "k s 50", "s y 0", "k z 50", "s z 0");
        Check.fine(x, "some behind none", x.bestWay(0), 1);
        Check.fine(x, "three with none", x.bestWay(1), 0);
    }

    private static void bestWayRefused() {
        Check.sentence("22: NONE: 1; 6 (it has none).");
        UmbrellaFlight x = told(2, "black", "h s 0", "s z 0");
        Check.fine(x, "bestWay(0)", x.bestWay(0), 0);
        Check.refused(x, "bestWay(1)", x.bestWay(1), -1, 6);
        Check.refused(x, "bestWay(2)", x.bestWay(2), -1, 1);
        for (int wrong : FAR) {
            Check.refused(x, "bestWay(" + wrong + ")", x.bestWay(wrong), -1, 1);
        }
    }

    // ---- the best day

    private static UmbrellaFlight both(int days, String first, String second) {
        StringBuilder text = new StringBuilder("flight days " + days + " grows 0 room 9;stop h hall;stop s strait;stop z south;"
            + "way h z wind 5 loss 50;way h s wind 0 loss 50;way s z wind 0 loss 50");
        String[] both = {first, second};
        for (int u = 0; u < 2; u++) {
            String[] parts = both[u].split(" ");
            char name = (char) ('a' + u);
            text.append(";umbrella ").append(name).append(' ').append(parts[0]).append(" strong ").append(parts[1])
                .append(" home h");
            if (parts.length > 2) {
                text.append(";flies ").append(name).append(' ').append(parts[2]).append(' ').append(parts[3]);
            }
        }
        return Check.told(text.toString(), 2);
    }

    private static void best(UmbrellaFlight x, int u, int day, int many) {
        Check.fine(x, "bestDay(" + u + ")", x.bestDay(u), day);
        Check.fine(x, "bestMany(" + u + ")", x.bestMany(u), many);
    }

    private static void bestDay() {
        Check.sentence("III: BEST DAY: the day on which to set out, all others as they do, by which most ARRIVE");
        UmbrellaFlight x = both(6, "golf 9 5 z", "black 3 2 z");
        best(x, 1, 5, 2);
        best(x, 0, 2, 2);
        Check.fine(x, "send", x.send(0, 1, 3));
        best(x, 1, 3, 2);
        Check.fine(x, "nothing is changed", x.umbrella(1, 3), 2);
        Check.fine(x, "nor the year", x.falls(1), 2);
        Check.due("acts", x.size(12), 1);
    }

    private static void bestDayWithoutIt() {
        Check.sentence("III: BEST DAY: by which most ARRIVE, be it one of them or not");
        UmbrellaFlight x = both(3, "golf 4 0 z", "black 3 1 z");
        best(x, 0, 1, 2);
        x = both(3, "golf 0 0 z", "black 3 1 z");
        best(x, 0, 1, 1);
        Check.fine(x, "it falls", x.falls(0), 0);
    }

    private static void firstBestDay() {
        Check.sentence("III: BEST DAY: the first such");
        UmbrellaFlight x = both(6, "black 9 3 z", "black 9 1 z");
        best(x, 0, 0, 2);
        x = both(6, "black 4 3 z", "black 4 1 z");
        best(x, 0, 1, 2);
        x = both(6, "black 0 3 z", "miser 9");
        best(x, 0, 0, 0);
        x = both(3, "black 9 2 s,z", "black 9 2 z");
        best(x, 0, 0, 2);
        Check.fine(x, "on the day told it comes too late", x.arrived(), 2);
    }

    private static void lastBestDay() {
        Check.sentence("III: BEST DAY: 0 up to days less 1");
        for (int days = 2; days <= 20; days += 18) {
            UmbrellaFlight x = both(days, "golf 9 " + (days - 1) + " z", "black 3 0 z");
            best(x, 1, days - 1, 2);
            x = both(days, "golf 9 0 z", "black 3 " + (days - 1) + " z");
            best(x, 1, 0, 2);
        }
    }

    private static void bestDayRefused() {
        Check.sentence("23: NONE: 1; 6 (it doesn't fly). 24: likewise");
        UmbrellaFlight x = both(3, "black 9 1 z", "black 9");
        best(x, 0, 0, 1);
        Check.refused(x, "bestDay(1)", x.bestDay(1), -1, 6);
        Check.refused(x, "bestMany(1)", x.bestMany(1), -1, 6);
        for (int wrong : new int[] {-1, 2, 6, Integer.MIN_VALUE, Integer.MAX_VALUE}) {
            Check.refused(x, "bestDay(" + wrong + ")", x.bestDay(wrong), -1, 1);
            Check.refused(x, "bestMany(" + wrong + ")", x.bestMany(wrong), -1, 1);
        }
        Check.fine(x, "send", x.send(1, 1, 2));
        best(x, 1, 0, 2);
        Check.fine(x, "undo", x.undo());
        Check.refused(x, "bestDay(1), undone", x.bestDay(1), -1, 6);
    }

    // ---- what fits

    /** Two ways out of a: by s to z, and to y; both as likely. */
    private static String two(int days, String... rings) {
        StringBuilder text = new StringBuilder(map(days, "black", "h s 10", "s z 0", "h y 10"));
        for (String ring : rings) {
            text.append(";ring ").append(ring);
        }
        return text.toString();
    }

    private static void fits(UmbrellaFlight x, int u, int many, int could, int surely) {
        Check.fine(x, "fits(" + u + ")", x.fits(u), many);
        Check.fine(x, "could(" + u + ")", x.could(u), could);
        Check.fine(x, "surely(" + u + ")", x.surely(u), surely);
    }

    private static void looks(UmbrellaFlight x, int u, int likeliest, int count, int countMost) {
        Check.fine(x, "likeliest(" + u + ")", x.likeliest(u), likeliest);
        Check.fine(x, "count(" + u + ")", x.count(u), count);
        Check.fine(x, "countMost(" + u + ")", x.countMost(u), countMost);
    }

    private static void fitsWithoutRings() {
        Check.sentence("III: FITS: a day (0 up to days less 1) and one of its WAYS OUT");
        UmbrellaFlight x = Check.told(two(4), 2);
        fits(x, 0, 8, 1 << S | 1 << Y | 1 << Z, 0);
        looks(x, 0, 0, 1, 4);
        x = Check.told(two(20), 2);
        Check.fine(x, "fits(0)", x.fits(0), 40);
        x = Check.told(two(2), 2);
        Check.fine(x, "fits(0)", x.fits(0), 4);
    }

    private static void fitsByRings() {
        Check.sentence("III: FITS: such that all its RINGS are RIGHT");
        UmbrellaFlight x = Check.told(two(4, "a h 0"), 2);
        Check.fine(x, "at home behind 0", x.fits(0), 6);
        x = Check.told(two(4, "a h 2"), 2);
        fits(x, 0, 2, 1 << S | 1 << Y | 1 << Z, 0);
        x = Check.told(two(4, "a h 3"), 2);
        Check.fine(x, "at home behind the last day", x.fits(0), 0);
        x = Check.told(two(4, "a s 0"), 2);
        fits(x, 0, 1, 1 << S | 1 << Z, 1 << S | 1 << Z);
        x = Check.told(two(4, "a s 3"), 2);
        fits(x, 0, 1, 1 << S | 1 << Z, 1 << S | 1 << Z);
        x = Check.told(two(4, "a z 0"), 2);
        Check.fine(x, "too far", x.fits(0), 0);
        x = Check.told(two(4, "a z 3"), 2);
        Check.fine(x, "at the end of its way, and behind it", x.fits(0), 3);
        x = Check.told(two(4, "a y 3"), 2);
        fits(x, 0, 4, 1 << Y, 1 << Y);
        x = Check.told(two(4, "a h 1", "a z 3"), 2);
        Check.fine(x, "by two", x.fits(0), 1);
        x = Check.told(two(4, "a z 3", "a h 2"), 2);
        Check.fine(x, "by two that can't be", x.fits(0), 0);
        x = Check.told(two(4, "b k 3", "b s 0"), 2);
        Check.fine(x, "by none of its own", x.fits(0), 8);
    }

    private static void fitsAlone() {
        Check.sentence("III: FITS: if it sets out so, alone (it has all strength it needs), a miser, one KEPT, likewise");
        for (String kind : new String[] {"black", "miser", "folding"}) {
            UmbrellaFlight x = Check.told(two(4, "a s 2").replace("a black", "a " + kind) + ";flies a 0 y", 2);
            for (int i = 0; i < 2; i++) {
                fits(x, 0, 1, 1 << S | 1 << Z, 1 << S | 1 << Z);
                looks(x, 0, 2000, 0, 1);
                Check.fine(x, "it isn't so in the year", x.judge(), 0);
                if (i == 0) {
                    Check.fine(x, "keep", x.keep(0, true));
                    Check.fine(x, "send", x.send(0, 0, 3));
                }
            }
        }
    }

    private static void couldWithoutHome() {
        Check.sentence("III: COULD: stops of the WAY OUT, its home aside, in some of these; SURELY: in all");
        UmbrellaFlight x = Check.told(map(2, "black", "h k 0", "k h 0", "k s 0", "s z 0", "k y 0") + ";ring a h 0", 2);
        fits(x, 0, 2, 1 << K | 1 << S | 1 << Y | 1 << Z, 1 << K);
        fits(x, 1, 4, 1 << S | 1 << Y | 1 << Z, 0);
    }

    private static void lastStops() {
        Check.sentence("III: COULD, SURELY: as bits, of the last stop, too");
        UmbrellaFlight x = Check.told("flight days 2 grows 0 room 9;stop h hall;stop b hall;stop c hall;stop d hall;stop e hall;"
            + "stop f hall;stop g hall;stop z south;way h z wind 0 loss 0;umbrella a black strong 1 home h", 1);
        fits(x, 0, 2, 128, 128);
        looks(x, 0, 0, 0, 1);
        x = Check.told("flight days 2 grows 0 room 9;stop z south;stop h hall;way h z wind 0 loss 0;"
            + "umbrella a black strong 1 home h", 1);
        fits(x, 0, 2, 1, 1);
        looks(x, 0, 0, 0, 1);
    }

    private static void surelyWithoutFits() {
        Check.sentence("27: SURELY, as bits (0 without FITS)");
        UmbrellaFlight x = Check.told(two(4, "a z 0"), 2);
        fits(x, 0, 0, 0, 0);
        fits(x, 1, 0, 0, 0);
    }

    private static void likeliest() {
        Check.sentence("III: LIKELIEST: that of greatest CHANCE; by days, then WAYS OUT, the first such");
        UmbrellaFlight x = Check.told(two(4), 2);
        Check.fine(x, "the first of all", x.likeliest(0), 0);
        x = Check.told(two(4).replace("h y wind 9 loss 10", "h y wind 9 loss 9"), 2);
        Check.fine(x, "the other way out", x.likeliest(0), 1);
        x = Check.told(two(4, "a h 1"), 2);
        Check.fine(x, "the first day", x.likeliest(0), 2000);
        x = Check.told(two(20, "a h 18").replace("h y wind 9 loss 10", "h y wind 9 loss 9"), 2);
        Check.fine(x, "the last day, the other way out", x.likeliest(0), 19001);
        x = Check.told(two(20, "a h 18").replace("h y wind 9 loss 10", "h y wind 9 loss 11"), 2);
        Check.fine(x, "the last day", x.likeliest(0), 19000);
        x = Check.told(map(3, "lady", "h s 50", "s z 0", "h y 50"), 2);
        Check.fine(x, "none has a chance", x.likeliest(0), 0);
    }

    private static void count() {
        Check.sentence("III: COUNT: such that of its FITS at most the fewest are left; by stops, then days, the first such");
        UmbrellaFlight x = Check.told(two(4), 2);
        looks(x, 0, 0, 1, 4);
        x = Check.told(two(4, "a z 3"), 2);
        looks(x, 0, 0, 0, 2);
        x = Check.told(two(4, "a y 3"), 2);
        looks(x, 0, 1, 1, 2);
        x = Check.told(two(2, "a h 0"), 2);
        looks(x, 0, 1000, 100 * S + 1, 1);
        x = Check.told(two(20, "a h 18"), 2);
        looks(x, 0, 19000, 100 * S + 19, 1);
        x = Check.told(map(3, "black", "h s 0", "s t 0", "s y 0", "s z 0", "t y 0") + ";ring a s 0", 2);
        fits(x, 0, 3, 1 << S | 1 << T | 1 << Y | 1 << Z, 1 << S);
        looks(x, 0, 0, 100 * T + 1, 2);
        x = Check.told(map(2, "black", "h y 1", "h z 0") + ";ring a h 0", 2);
        looks(x, 0, 1001, 100 * Y + 1, 1);
    }

    private static void countWhereAllAreOne() {
        Check.sentence("III: COUNT: where no look parts the FITS, the first stop and day");
        UmbrellaFlight x = Check.told(two(4, "a s 3"), 2);
        looks(x, 0, 3000, 0, 1);
        x = Check.told(map(2, "black", "h s 0", "s y 0", "s z 0") + ";ring a h 0", 2);
        fits(x, 0, 2, 1 << S | 1 << Y | 1 << Z, 1 << S);
        looks(x, 0, 1000, 0, 2);
    }

    private static void fitsRefused() {
        Check.sentence("25, 26, 27: NONE: 1.");
        UmbrellaFlight x = Check.told(two(4), 2);
        for (int wrong : new int[] {-1, 2, 6, Integer.MIN_VALUE, Integer.MAX_VALUE}) {
            Check.refused(x, "fits(" + wrong + ")", x.fits(wrong), -1, 1);
            Check.refused(x, "could(" + wrong + ")", x.could(wrong), -1, 1);
            Check.refused(x, "surely(" + wrong + ")", x.surely(wrong), -1, 1);
        }
    }

    private static void looksRefused() {
        Check.sentence("28, 29: NONE: 1; 6 (none FITS). 30: likewise");
        UmbrellaFlight x = Check.told(two(4, "a z 0"), 2);
        for (int u = 0; u < 2; u++) {
            Check.refused(x, "likeliest(" + u + ")", x.likeliest(u), -1, 6);
            Check.refused(x, "count(" + u + ")", x.count(u), -1, 6);
            Check.refused(x, "countMost(" + u + ")", x.countMost(u), -1, 6);
        }
        for (int wrong : new int[] {-1, 2, 6, Integer.MIN_VALUE, Integer.MAX_VALUE}) {
            Check.refused(x, "likeliest(" + wrong + ")", x.likeliest(wrong), -1, 1);
            Check.refused(x, "count(" + wrong + ")", x.count(wrong), -1, 1);
            Check.refused(x, "countMost(" + wrong + ")", x.countMost(wrong), -1, 1);
        }
    }

    /** Whatever is asked first, and of whichever umbrella. */
    private static void eachByItself() {
        Check.sentence("25 to 30: each answers by itself");
        String text = two(4, "a y 3") + ";way k z wind 0 loss 0";
        int[] ofA = {4, 1 << Y, 1 << Y, 1, 1, 2};
        int[] ofB = {4, 1 << Z, 1 << Z, 0, 101, 2};
        for (int which = 25; which <= 30; which++) {
            Check.fine(Check.told(text, 2), "asked first", Calls.ask(Check.told(text, 2), which, 0, 0, 0), ofA[which - 25]);
            UmbrellaFlight x = Check.told(text, 2);
            Check.fine(x, "promise " + which + " of b", Calls.ask(x, which, 1, 0, 0), ofB[which - 25]);
            Check.fine(x, "promise " + which + " of a", Calls.ask(x, which, 0, 0, 0), ofA[which - 25]);
            Check.fine(x, "promise " + which + " of b again", Calls.ask(x, which, 1, 0, 0), ofB[which - 25]);
        }
    }

    public static void main(String[] args) {
        homeToSouth();
        noneTwice();
        byWays();
        fiveWays();
        inOrder();
        waysOutOfAll();
        waysOutRefused();
        wayOutRefused();
        chances();
        ladiesChances();
        noChance();
        chanceRefused();
        bestWay();
        bestWayRefused();
        bestDay();
        bestDayWithoutIt();
        firstBestDay();
        lastBestDay();
        bestDayRefused();
        fitsWithoutRings();
        fitsByRings();
        fitsAlone();
        couldWithoutHome();
        lastStops();
        surelyWithoutFits();
        likeliest();
        count();
        countWhereAllAreOne();
        fitsRefused();
        looksRefused();
        eachByItself();
        Check.end();
    }
}
