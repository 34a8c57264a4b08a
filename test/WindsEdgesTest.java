/** Terms III, and promises 36 to 41: setting out, a herd, draws; each sentence that names an edge by a test of its own. */
public final class WindsEdgesTest {
    private static final int[] FAR = {-1, Integer.MIN_VALUE, Integer.MAX_VALUE};
    private static final int NEVER_CHANGES = 65536;

    /** Of each day: the chance of a good wind, what it is worth by a good one, and by a bad one. */
    private static UmbrellaFlight winds(String... days) {
        StringBuilder text = new StringBuilder(Check.ONE);
        for (String day : days) {
            String[] parts = day.split(" ");
            text.append(";wind ").append(parts[0]).append(" good ").append(parts[1]).append(" bad ").append(parts[2]);
        }
        return Check.told(text.toString(), 1);
    }

    private static void mean(UmbrellaFlight x, long upper, long lower) {
        Check.fine(x, "mean, upper", x.mean(false), upper);
        Check.fine(x, "mean, lower", x.mean(true), lower);
    }

    /** Of each day 1 or 0 by a good wind, and by a bad one. */
    private static void goes(UmbrellaFlight x, String... due) {
        for (int day = 0; day < due.length; day++) {
            Check.fine(x, "go(" + day + ", true)", x.go(day, true), due[day].charAt(0) - '0');
            Check.fine(x, "go(" + day + ", false)", x.go(day, false), due[day].charAt(1) - '0');
        }
        Check.refused(x, "go behind the last day", x.go(due.length, true), -1, 1);
        Check.refused(x, "go behind the last day", x.go(due.length, false), -1, 1);
    }

    // ---- setting out

    private static void oneDay() {
        Check.sentence("III: SETTING OUT: on the last day one sets out");
        UmbrellaFlight x = winds("50 9 1");
        mean(x, 5, 1);
        goes(x, "11");
        x = winds("50 0 0");
        mean(x, 0, 1);
        goes(x, "11");
        x = winds("0 99 0", "0 99 0");
        mean(x, 0, 1);
        goes(x, "11", "11");
    }

    private static void byItsChance() {
        Check.sentence("III: SETTING OUT: whether the wind is good (by its chance) or bad");
        mean(winds("0 99 7"), 7, 1);
        mean(winds("100 99 7"), 99, 1);
        mean(winds("1 99 0"), 99, 100);
        mean(winds("99 0 99"), 99, 100);
        mean(winds("33 7 3"), 108, 25);
    }

    private static void greatestMean() {
        Check.sentence("III: MEAN: the greatest that can be; 36: in lowest terms");
        UmbrellaFlight x = winds("50 4 3", "25 8 2");
        mean(x, 15, 4);
        goes(x, "10", "11");
        x = winds("50 3 1", "0 9 2", "100 2 9");
        mean(x, 5, 2);
        goes(x, "10", "11", "11");
        x = winds("50 6 5", "50 6 5", "50 6 5");
        mean(x, 47, 8);
        goes(x, "10", "10", "11");
    }

    private static void sixDays() {
        Check.sentence("III: MEAN, GO: of all six WINDS");
        UmbrellaFlight x = winds("99 1 0", "99 1 0", "99 1 0", "99 1 0", "99 1 0", "99 1 0");
        mean(x, 999999999999L, 1000000000000L);
        goes(x, "10", "10", "10", "10", "10", "11");
        x = winds("1 0 99", "1 0 99", "1 0 99", "1 0 99", "1 0 99", "1 0 99");
        mean(x, 98999999999901L, 1000000000000L);
        goes(x, "01", "01", "01", "01", "01", "11");
        x = winds("50 99 0", "50 99 98", "33 98 97", "7 99 96", "1 99 0", "99 99 98");
        mean(x, 395990793, 4000000);
        goes(x, "10", "10", "00", "10", "10", "11");
    }

    private static void noLess() {
        Check.sentence("III: GO: whether setting out is worth no less than waiting");
        UmbrellaFlight x = winds("50 4 3", "50 4 4");
        goes(x, "10", "11");
        x = winds("50 4 3", "25 8 2", "50 4 3");
        goes(x, "00", "10", "11");
        x = winds("50 98 97", "1 99 98");
        goes(x, "00", "11");
        x = winds("50 99 98", "1 98 98");
        goes(x, "11", "11");
        x = winds("50 0 0", "50 0 0");
        goes(x, "11", "11");
    }

    private static void lastDay() {
        Check.sentence("37: (the last day: 1)");
        goes(winds("50 0 0"), "11");
        goes(winds("100 99 0"), "11");
        goes(winds("50 99 98", "50 0 0"), "11", "11");
        goes(winds("50 0 0", "50 0 0", "50 99 0"), "00", "00", "11");
    }

    private static void meanOfNothing() {
        Check.sentence("36: (0 by 1)");
        mean(winds("0 99 0"), 0, 1);
        mean(winds("100 0 99", "50 0 0", "0 99 0"), 0, 1);
    }

    private static void meanRefused() {
        Check.sentence("36: -1: 1 (no FLIGHT); 6 (no WINDS).");
        UmbrellaFlight none = new UmbrellaFlight();
        UmbrellaFlight x = Check.told(Check.ONE, 1);
        for (int i = 0; i < 2; i++) {
            Check.refused(none, "without a flight", none.mean(i == 0), -1, 1);
            Check.refused(x, "without winds", x.mean(i == 0), -1, 6);
        }
    }

    private static void goRefused() {
        Check.sentence("37: NONE: 1 (no FLIGHT); 6 (no WINDS); 1 (day).");
        UmbrellaFlight none = new UmbrellaFlight();
        Check.refused(none, "without a flight", none.go(-1, true), -1, 1);
        UmbrellaFlight x = Check.told(Check.ONE, 1);
        for (int day : new int[] {0, -1, 6, Integer.MIN_VALUE, Integer.MAX_VALUE}) {
            Check.refused(x, "without winds", x.go(day, true), -1, 6);
            Check.refused(x, "without winds", x.go(day, false), -1, 6);
        }
        x = winds("50 1 1", "50 1 1");
        for (int day : new int[] {-1, 2, 4, 5, 6, Integer.MIN_VALUE, Integer.MAX_VALUE}) {
            Check.refused(x, "go(" + day + ")", x.go(day, true), -1, 1);
            Check.refused(x, "go(" + day + ")", x.go(day, false), -1, 1);
        }
    }

    // ---- a herd

    private static UmbrellaFlight herds(int grows, int room) {
        return Check.told("flight days 2 grows " + grows + " room " + room + ";stop h hall;umbrella a black strong 0 home h", 1);
    }

    private static void allIfFewer() {
        Check.sentence("III: HERD: of n umbrellas each year t are taken (all, if fewer)");
        UmbrellaFlight x = herds(0, 999);
        Check.fine(x, "one less than all", x.herd(10, 9, 1), 1);
        Check.fine(x, "just all", x.herd(10, 10, 1), 0);
        Check.fine(x, "fewer", x.herd(10, 11, 1), 0);
        Check.fine(x, "far fewer", x.herd(1, 999, 200), 0);
        Check.fine(x, "all in two years", x.herd(10, 6, 2), 0);
        Check.fine(x, "none is there", x.herd(0, 0, 200), 0);
    }

    private static void downwards() {
        Check.sentence("III: HERD: then there are as many in a hundred more as grows tells, downwards");
        UmbrellaFlight x = herds(50, 999);
        int[] due = {0, 1, 3, 4, 6, 7};
        for (int n = 0; n < due.length; n++) {
            Check.fine(x, "of " + n, x.herd(n, 0, 1), due[n]);
        }
        Check.fine(x, "taken ahead of it", x.herd(10, 2, 1), 12);
        x = herds(99, 999);
        Check.fine(x, "not quite one more", x.herd(1, 0, 200), 1);
        Check.fine(x, "99 of 100", x.herd(100, 0, 1), 199);
        Check.fine(x, "99 of 101", x.herd(101, 0, 1), 200);
        x = herds(1, 999);
        Check.fine(x, "1 in a hundred of 99", x.herd(99, 0, 200), 99);
        Check.fine(x, "1 in a hundred of 100", x.herd(100, 0, 1), 101);
        x = herds(0, 999);
        Check.fine(x, "nothing grows", x.herd(998, 0, 200), 998);
    }

    private static void atMostRoom() {
        Check.sentence("III: HERD: at most room");
        UmbrellaFlight x = herds(50, 100);
        Check.fine(x, "just room", x.herd(67, 0, 1), 100);
        Check.fine(x, "one less", x.herd(66, 0, 1), 99);
        Check.fine(x, "more", x.herd(68, 0, 1), 100);
        Check.fine(x, "much more", x.herd(999, 0, 1), 100);
        Check.fine(x, "each year", x.herd(999, 10, 200), 100);
        x = herds(99, 1);
        Check.fine(x, "room for one", x.herd(999, 0, 1), 1);
        x = herds(99, 999);
        Check.fine(x, "all the room there is", x.herd(999, 0, 200), 999);
    }

    private static void behindNoYear() {
        Check.sentence("38: behind y years (0): n, be there room for it or not");
        UmbrellaFlight x = herds(50, 1);
        Check.fine(x, "999", x.herd(999, 999, 0), 999);
        Check.fine(x, "0", x.herd(0, 0, 0), 0);
    }

    private static void herdRefused() {
        Check.sentence("38: HERD of n (0 .. 999), t taken (0 .. 999), behind y years (0 .. 200). NONE: 1 (no FLIGHT); 2.");
        UmbrellaFlight x = herds(0, 999);
        Check.fine(x, "the greatest", x.herd(999, 999, 200), 0);
        Check.fine(x, "the least", x.herd(0, 0, 0), 0);
        Check.refused(x, "n 1000", x.herd(1000, 0, 0), -1, 2);
        Check.refused(x, "t 1000", x.herd(0, 1000, 0), -1, 2);
        Check.refused(x, "y 201", x.herd(0, 0, 201), -1, 2);
        UmbrellaFlight none = new UmbrellaFlight();
        for (int wrong : FAR) {
            Check.refused(x, "n " + wrong, x.herd(wrong, 0, 0), -1, 2);
            Check.refused(x, "t " + wrong, x.herd(0, wrong, 0), -1, 2);
            Check.refused(x, "y " + wrong, x.herd(0, 0, wrong), -1, 2);
            Check.refused(none, "without a flight", none.herd(wrong, 0, 0), -1, 1);
        }
    }

    private static void mostTaken() {
        Check.sentence("III: MOST TAKEN: the greatest t with which there are no fewer behind y years than at first");
        UmbrellaFlight x = herds(50, 100);
        Check.fine(x, "10 behind a year", x.mostTaken(10, 1), 3);
        Check.fine(x, "one more is too many", x.herd(10, 4, 1), 9);
        Check.fine(x, "100 behind 200", x.mostTaken(100, 200), 33);
        Check.fine(x, "1", x.mostTaken(1, 1), 0);
        Check.fine(x, "2", x.mostTaken(2, 1), 0);
        Check.fine(x, "3", x.mostTaken(3, 1), 1);
        x = herds(99, 999);
        Check.fine(x, "999 behind a year", x.mostTaken(999, 1), 496);
        Check.fine(x, "999 behind 200", x.mostTaken(999, 200), 496);
        x = herds(0, 999);
        Check.fine(x, "nothing grows", x.mostTaken(999, 1), 0);
    }

    private static void mostTakenOfAll() {
        Check.sentence("39: MOST TAKEN: t taken (0 .. 999)");
        UmbrellaFlight x = herds(50, 100);
        Check.fine(x, "none is there", x.mostTaken(0, 1), 999);
        Check.fine(x, "none is there for long", x.mostTaken(0, 200), 999);
        Check.fine(x, "behind no year", x.mostTaken(1, 0), 999);
        Check.fine(x, "behind no year", x.mostTaken(999, 0), 999);
    }

    private static void mostTakenOfNone() {
        Check.sentence("39: -2 none");
        UmbrellaFlight x = herds(50, 100);
        Check.fine(x, "just room", x.mostTaken(100, 1), 33);
        Check.fine(x, "no room", x.mostTaken(101, 1), -2);
        Check.fine(x, "no room", x.mostTaken(999, 200), -2);
        x = herds(99, 1);
        Check.fine(x, "no room for two", x.mostTaken(2, 1), -2);
    }

    private static void mostTakenRefused() {
        Check.sentence("39: NONE: 1 (no FLIGHT); 2.");
        UmbrellaFlight x = herds(0, 999);
        Check.fine(x, "the greatest", x.mostTaken(999, 200), 0);
        Check.refused(x, "n 1000", x.mostTaken(1000, 0), -1, 2);
        Check.refused(x, "y 201", x.mostTaken(0, 201), -1, 2);
        UmbrellaFlight none = new UmbrellaFlight();
        for (int wrong : FAR) {
            Check.refused(x, "n " + wrong, x.mostTaken(wrong, 0), -1, 2);
            Check.refused(x, "y " + wrong, x.mostTaken(0, wrong), -1, 2);
            Check.refused(none, "without a flight", none.mostTaken(0, wrong), -1, 1);
        }
    }

    // ---- years by draws

    /** By 0 the draws are 74, 5624, 28652, 51790, 17641, 12409, 13231, 9344, 45504, 4950. */
    private static UmbrellaFlight draws(String... umbrellas) {
        StringBuilder text = new StringBuilder("flight days 4 grows 0 room 9;stop h hall;stop k hall;stop s strait;stop z south;"
            + "way h z wind 0 loss 50;way k z wind 9 loss 0;way h s wind 0 loss 50;way s z wind 0 loss 0");
        for (int u = 0; u < umbrellas.length; u++) {
            String[] parts = umbrellas[u].split(" ");
            char name = (char) ('a' + u);
            text.append(";umbrella ").append(name).append(' ').append(parts[0]).append(" strong ").append(parts[1])
                .append(" home ").append(parts[2]).append(";flies ").append(name).append(' ').append(parts[3]).append(' ')
                .append(parts[4]);
        }
        return Check.told(text.toString(), umbrellas.length);
    }

    private static UmbrellaFlight one(String kind, int loss) {
        return Check.told("flight days 2 grows 0 room 9;stop h hall;stop z south;way h z wind 0 loss " + loss + ";umbrella a "
            + kind + " strong 0 home h;flies a 0 z", 1);
    }

    private static void belowItsLoss() {
        Check.sentence("III: each that comes to the end of a way is LOST there by a DRAW mod 100 below its loss");
        // each seed's draw: 45438's is 0, 25340's 1, 43691's 49, 23593's 50, 1748's 100, 45440's 150
        Check.fine(one("black", 0), "0 isn't below 0", one("black", 0).yearBy(45438), 1);
        Check.fine(one("black", 1), "0 is below 1", one("black", 1).yearBy(45438), 0);
        Check.fine(one("black", 1), "1 isn't below 1", one("black", 1).yearBy(25340), 1);
        Check.fine(one("black", 2), "1 is below 2", one("black", 2).yearBy(25340), 0);
        Check.fine(one("black", 49), "49 isn't below 49", one("black", 49).yearBy(43691), 1);
        Check.fine(one("golf", 50), "49 is below 50", one("golf", 50).yearBy(43691), 0);
        Check.fine(one("black", 50), "50 isn't below 50", one("black", 50).yearBy(23593), 1);
        Check.fine(one("black", 1), "100 mod 100 is below 1", one("black", 1).yearBy(1748), 0);
        Check.fine(one("black", 50), "150 mod 100 isn't below 50", one("black", 50).yearBy(45440), 1);
    }

    private static void ladiesLoss() {
        Check.sentence("III: (a lady twice)");
        Check.fine(one("lady", 25), "49 is below 50", one("lady", 25).yearBy(43691), 0);
        Check.fine(one("lady", 25), "50 isn't below 50", one("lady", 25).yearBy(23593), 1);
        Check.fine(one("lady", 50), "99 is below 100", one("lady", 50).yearBy(21846), 0);
        Check.fine(one("lady", 49), "99 isn't below 98", one("lady", 49).yearBy(21846), 1);
        Check.fine(one("lady", 0), "0 isn't below 0", one("lady", 0).yearBy(45438), 1);
    }

    private static void seedsGoRound() {
        Check.sentence("III: SEED becomes (75 times SEED and 74) mod 65,537");
        for (int loss = 35; loss <= 37; loss++) {
            UmbrellaFlight x = one("black", loss);
            Check.fine(x, "65,535 by 20,097", x.yearBy(20097), loss > 35 ? 0 : 1);
            Check.fine(x, "65,536 by itself", x.yearBy(NEVER_CHANGES), loss > 36 ? 0 : 1);
            Check.fine(x, "it never changes", x.seasons(NEVER_CHANGES, 50), loss > 36 ? 0 : 50);
        }
    }

    private static void drawsByNumbers() {
        Check.sentence("III: by numbers, each day");
        UmbrellaFlight x = draws("black 0 h 0 z", "black 0 h 0 z");
        Check.fine(x, "the second is lost", x.yearBy(0), 1);
        x = draws("black 0 h 1 z", "black 0 h 0 z");
        Check.fine(x, "the first is lost, on the later day", x.yearBy(0), 2);
        x = draws("black 0 h 0 z", "black 0 h 1 z", "black 0 h 0 z", "black 0 h 2 z", "black 0 h 1 z", "black 0 h 3 z");
        Check.fine(x, "day by day", x.yearBy(0), 1 | 2 | 16);
    }

    private static void drawsOfAll() {
        Check.sentence("III: each that comes to the end of a way, by a DRAW, be its loss 0, too");
        UmbrellaFlight x = draws("black 9 k 0 z", "black 0 h 0 z");
        Check.fine(x, "the second draw is for the second", x.yearBy(0), 1);
        x = draws("black 0 h 0 s,z", "black 0 h 1 z");
        Check.fine(x, "a strait's is a way's end, too", x.yearBy(0), 1 | 2);
    }

    private static void noDraws() {
        Check.sentence("III: A DRAW is for each that comes to the end of a way alone");
        UmbrellaFlight x = draws("black 8 k 0 z", "black 0 h 0 z");
        Check.fine(x, "one falls", x.yearBy(0), 2);
        x = draws("miser 9 h 0 z", "black 0 h 0 z");
        Check.fine(x, "a miser", x.yearBy(0), 2);
        x = draws("black 9 h 0 z", "black 0 h 0 z");
        Check.fine(x, "keep", x.keep(0, true));
        Check.fine(x, "one kept", x.yearBy(0), 2);
        x = draws("black 9 h 1 z", "black 0 h 0 z");
        Check.fine(x, "send", x.send(0, 0, 3));
        Check.fine(x, "by what is sent", x.yearBy(0), 2);
        Check.fine(x, "none of them flies", Check.told(Check.ONE, 1).seasons(0, 50), 0);
    }

    private static void lostThere() {
        Check.sentence("III: LOST there: it goes no way on, and is of no FLOCK");
        // by 43691 the draws are 49, 3749, 19101
        String text = "flight days 4 grows 0 room 9;stop h hall;stop s strait;stop z south;way h s wind 0 loss 50;"
            + "way s z wind 0 loss 0;way h z wind 0 loss 40;umbrella a black strong 0 home h;umbrella b black strong 0 home h;"
            + "flies a 0 s,z;flies b 1 z";
        UmbrellaFlight x = Check.told(text, 2);
        Check.fine(x, "the second draw is b's", x.yearBy(43691), 2);
        x = Check.told(text.replace("loss 50", "loss 49").replace("loss 40", "loss 2"), 2);
        Check.fine(x, "the third draw is b's", x.yearBy(43691), 1);
        x = Check.told("flight days 3 grows 0 room 9;stop h hall;stop s strait;stop z south;way h s wind 0 loss 50;"
            + "way s z wind 2 loss 0;umbrella a black strong 9 home h;umbrella b black strong 1 home h;"
            + "flies a 0 s,z;flies b 0 s,z", 2);
        Check.fine(x, "together", x.arrived(), 3);
        Check.fine(x, "by draws 74 and 24 the second is lost", x.yearBy(0), 1);
        Check.fine(x, "by draws 49 and 3749 both are", x.yearBy(43691), 0);
        Check.fine(x, "the year is as it was", x.arrived(), 3);
    }

    private static void lostOnesHelpNone() {
        Check.sentence("III: LOST there: the other one falls without it");
        UmbrellaFlight x = Check.told("flight days 3 grows 0 room 9;stop h hall;stop s strait;stop z south;"
            + "way h s wind 0 loss 19;"
            + "way s z wind 2 loss 0;umbrella a lady strong 9 home h;umbrella b black strong 1 home h;"
            + "flies a 0 s,z;flies b 0 s,z", 2);
        Check.fine(x, "by a year", x.arrived(), 3);
        Check.fine(x, "by draws of 36", x.yearBy(NEVER_CHANGES), 0);
    }

    private static void seedRefused() {
        Check.sentence("40: A YEAR by a SEED (0 .. 65,536). NONE: 1 (no FLIGHT); 2.");
        UmbrellaFlight x = draws("black 0 h 0 z");
        Check.fine(x, "yearBy(0)", x.yearBy(0), 1);
        Check.fine(x, "yearBy(65536)", x.yearBy(65536), 0);
        Check.refused(x, "yearBy(65537)", x.yearBy(65537), -1, 2);
        UmbrellaFlight none = new UmbrellaFlight();
        for (int wrong : FAR) {
            Check.refused(x, "yearBy(" + wrong + ")", x.yearBy(wrong), -1, 2);
            Check.refused(none, "without a flight", none.yearBy(wrong), -1, 1);
        }
        Check.fine(x, "the year is as it was", x.arrived(), 1);
    }

    private static void seedGoesOn() {
        Check.sentence("III: SEASONS: n such YEARS, SEED going on: how many ARRIVED, all together");
        UmbrellaFlight x = draws("black 0 h 0 z");
        int[] due = {1, 1, 2, 3, 3, 3, 3, 3, 3, 4};
        for (int n = 1; n <= due.length; n++) {
            Check.fine(x, "seasons(0, " + n + ")", x.seasons(0, n), due[n - 1]);
        }
        x = draws("black 0 h 0 z", "black 0 h 0 z");
        Check.fine(x, "two in one year", x.seasons(0, 1), 1);
        Check.fine(x, "two in two years", x.seasons(0, 2), 3);
        Check.fine(x, "two in three years", x.seasons(0, 3), 3);
        x = draws("black 9 k 3 z", "black 9 k 3 z", "black 9 k 3 z", "black 9 k 3 z", "black 9 k 3 z", "black 9 k 3 z");
        Check.fine(x, "all six in 50 years", x.seasons(65536, 50), 300);
    }

    private static void seasonsRefused() {
        Check.sentence("41: SEASONS of n (1 .. 50). NONE: likewise.");
        UmbrellaFlight x = draws("black 0 h 0 z");
        Check.fine(x, "of 1", x.seasons(0, 1), 1);
        Check.fine(x, "of 50", x.seasons(65536, 50), 0);
        Check.refused(x, "of 0", x.seasons(0, 0), -1, 2);
        Check.refused(x, "of 51", x.seasons(0, 51), -1, 2);
        Check.refused(x, "by 65537", x.seasons(65537, 1), -1, 2);
        UmbrellaFlight none = new UmbrellaFlight();
        for (int wrong : FAR) {
            Check.refused(x, "of " + wrong, x.seasons(0, wrong), -1, 2);
            Check.refused(x, "by " + wrong, x.seasons(wrong, 1), -1, 2);
            Check.refused(none, "without a flight", none.seasons(0, wrong), -1, 1);
        }
    }

    public static void main(String[] args) {
        oneDay();
        byItsChance();
        greatestMean();
        sixDays();
        noLess();
        lastDay();
        meanOfNothing();
        meanRefused();
        goRefused();
        allIfFewer();
        downwards();
        atMostRoom();
        behindNoYear();
        herdRefused();
        mostTaken();
        mostTakenOfAll();
        mostTakenOfNone();
        mostTakenRefused();
        belowItsLoss();
        ladiesLoss();
        seedsGoRound();
        drawsByNumbers();
        drawsOfAll();
        noDraws();
        lostThere();
        lostOnesHelpNone();
        seedRefused();
        seedGoesOn();
        seasonsRefused();
        Check.end();
    }
}
