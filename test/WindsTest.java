/** Promises 36 to 41: when to set out, a herd, years by draws. */
public final class WindsTest {
    private static void mean(String winds, long upper, long lower) {
        UmbrellaFlight x = Check.told(Check.ONE + winds, 1);
        Check.fine(x, "mean of " + winds, x.mean(false), upper);
        Check.fine(x, "mean by of " + winds, x.mean(true), lower);
    }

    private static void settingOut() {
        mean(";wind 50 good 10 bad 2;wind 20 good 20 bad 4", 43, 5);
        mean(";wind 0 good 99 bad 0", 0, 1);
        mean(";wind 100 good 99 bad 0", 99, 1);
        mean(";wind 33 good 7 bad 3", 108, 25);
        // bad may be worth more than good; the first day's best may be to wait by either
        mean(";wind 50 good 1 bad 3;wind 50 good 9 bad 9", 9, 1);
        mean(";wind 99 good 98 bad 97;wind 1 good 99 bad 98;wind 1 good 99 bad 98;wind 1 good 99 bad 98;"
            + "wind 1 good 99 bad 98;wind 1 good 99 bad 98", 980490099501L, 10000000000L);
        UmbrellaFlight x = Check.told(Check.ONE + ";wind 50 good 10 bad 2;wind 20 good 20 bad 4;wind 25 good 8 bad 4", 1);
        Check.fine(x, "go 0 good", x.go(0, true), 1);
        Check.fine(x, "go 0 bad", x.go(0, false), 0);
        Check.fine(x, "go 1 good", x.go(1, true), 1);
        Check.fine(x, "go 1 bad", x.go(1, false), 0);
        Check.fine(x, "go 2 good", x.go(2, true), 1);
        Check.fine(x, "go 2 bad, the last day", x.go(2, false), 1);
        Check.refused(x, "go 3", x.go(3, true), -1, 1);
        Check.refused(x, "go -1", x.go(-1, true), -1, 1);
        x = Check.told(Check.ONE + ";wind 50 good 5 bad 4;wind 25 good 8 bad 4", 1);
        Check.fine(x, "worth just as much as waiting", x.go(0, true), 1);
        Check.fine(x, "worth less", x.go(0, false), 0);
        x = Check.told(Check.ONE, 1);
        Check.refused(x, "mean without winds", x.mean(false), -1, 6);
        Check.refused(x, "go without winds", x.go(0, true), -1, 6);
        Check.refused(x, "go without winds", x.go(-1, true), -1, 6);
    }

    private static void herd() {
        UmbrellaFlight x = Check.told(Check.MAP, 5);
        Check.fine(x, "herd", x.herd(10, 2, 3), 19);
        Check.fine(x, "all are taken", x.herd(10, 20, 1), 0);
        Check.fine(x, "at most room", x.herd(90, 0, 1), 100);
        Check.fine(x, "behind no year more than room", x.herd(999, 5, 0), 999);
        Check.fine(x, "downwards", x.herd(3, 0, 1), 4);
        Check.fine(x, "none", x.herd(0, 999, 200), 0);
        Check.refused(x, "herd 1000", x.herd(1000, 0, 0), -1, 2);
        Check.refused(x, "herd -1", x.herd(-1, 0, 0), -1, 2);
        Check.refused(x, "taken 1000", x.herd(0, 1000, 0), -1, 2);
        Check.refused(x, "taken -1", x.herd(0, -1, 0), -1, 2);
        Check.refused(x, "years 201", x.herd(0, 0, 201), -1, 2);
        Check.refused(x, "years -1", x.herd(0, 0, -1), -1, 2);
        Check.fine(x, "mostTaken", x.mostTaken(10, 1), 3);
        Check.fine(x, "mostTaken for long", x.mostTaken(100, 200), 33);
        Check.fine(x, "mostTaken in no year", x.mostTaken(10, 0), 999);
        Check.fine(x, "mostTaken of none", x.mostTaken(0, 9), 999);
        Check.fine(x, "mostTaken of more than room", x.mostTaken(101, 1), -2);
        Check.refused(x, "mostTaken 1000", x.mostTaken(1000, 0), -1, 2);
        Check.refused(x, "mostTaken -1", x.mostTaken(-1, 0), -1, 2);
        Check.refused(x, "mostTaken years 201", x.mostTaken(0, 201), -1, 2);
        Check.refused(x, "mostTaken years -1", x.mostTaken(0, -1), -1, 2);
        x = Check.told("flight days 2 grows 0 room 999;stop h hall;umbrella a black strong 0 home h", 1);
        Check.fine(x, "nothing grows", x.herd(999, 1, 200), 799);
        Check.fine(x, "none may be taken", x.mostTaken(999, 200), 0);
    }

    private static void draws() {
        UmbrellaFlight x = Check.told(Check.MAP, 5);
        // by 0 the draws are 74, 5624 (day 1), 28652, 51790, 17641 (day 2), 12409 (day 3: c, a lady, is lost)
        Check.fine(x, "yearBy 0", x.yearBy(0), 3);
        Check.fine(x, "seasons 0", x.seasons(0, 1), 2);
        // the seed goes on from 12409
        Check.fine(x, "seasons 0, two", x.seasons(0, 2), 2 + x.seasons(12409, 1));
        Check.fine(x, "a year by draws leaves the year", x.arrived(), 7);
        Check.refused(x, "yearBy -1", x.yearBy(-1), -1, 2);
        Check.refused(x, "yearBy 65537", x.yearBy(65537), -1, 2);
        Check.refused(x, "seasons -1", x.seasons(-1, 1), -1, 2);
        Check.refused(x, "seasons 65537", x.seasons(65537, 1), -1, 2);
        Check.refused(x, "seasons of 0", x.seasons(0, 0), -1, 2);
        Check.refused(x, "seasons of 51", x.seasons(0, 51), -1, 2);
        // 75 times 65536 and 74 is -1 mod 65537: that seed never changes, and 36 is its rest by 100
        for (int loss = 36; loss <= 37; loss++) {
            x = Check.told("flight days 2 grows 0 room 9;stop h hall;stop z south;way h z wind 0 loss " + loss
                + ";umbrella a black strong 0 home h;umbrella b black strong 0 home h;flies a 0 z;flies b 1 z", 2);
            Check.fine(x, "yearBy 65536", x.yearBy(65536), loss == 36 ? 3 : 0);
            Check.fine(x, "seasons of 50", x.seasons(65536, 50), loss == 36 ? 100 : 0);
        }
        x = Check.told("flight days 2 grows 0 room 9;stop h hall;stop z south;way h z wind 0 loss 18"
            + ";umbrella a lady strong 0 home h;umbrella b golf strong 0 home h;flies a 0 z;flies b 1 z", 2);
        Check.fine(x, "36 is not below 36", x.yearBy(65536), 3);
        x = Check.told("flight days 3 grows 0 room 9;stop h hall;stop s strait;stop z south;way h s wind 0 loss 19;"
            + "way s z wind 2 loss 0;umbrella a lady strong 9 home h;umbrella b black strong 1 home h;flies a 0 s,z;flies b 0 s,z", 2);
        Check.fine(x, "without draws", x.arrived(), 3);
        Check.fine(x, "one lost leaves the flock, and the other falls", x.yearBy(65536), 0);
        Check.fine(x, "the year is as it was", x.arrived(), 3);
    }

    public static void main(String[] args) {
        settingOut();
        herd();
        draws();
        Check.end();
    }
}
