/** Promises 19 to 30: ways out, and what fits. */
public final class WaysTest {
    private static void waysOut() {
        UmbrellaFlight x = Check.told(Check.MAP, 5);
        Check.fine(x, "waysOut a", x.waysOut(0), 2);
        Check.fine(x, "waysOut c", x.waysOut(2), 1);
        Check.refused(x, "waysOut 5", x.waysOut(5), -1, 1);
        int[][] rows = {{0, 2, 3}, {0, 3}};
        for (int k = 0; k < 2; k++) {
            for (int i = 0; i < rows[k].length; i++) {
                Check.fine(x, "wayOut " + k + " " + i, x.wayOut(0, k, i), rows[k][i]);
            }
            Check.refused(x, "wayOut too far", x.wayOut(0, k, rows[k].length), -1, 1);
            Check.refused(x, "wayOut -1", x.wayOut(0, k, -1), -1, 1);
        }
        Check.refused(x, "wayOut of no way", x.wayOut(0, 2, 0), -1, 1);
        Check.refused(x, "wayOut of -1", x.wayOut(0, -1, 0), -1, 1);
        Check.refused(x, "wayOut of none", x.wayOut(-1, 0, 0), -1, 1);
        Check.fine(x, "chance 0", x.chance(0, 0, false), 18);
        Check.fine(x, "chance 0", x.chance(0, 0, true), 25);
        Check.fine(x, "chance 1", x.chance(0, 1, false), 1);
        Check.fine(x, "chance 1", x.chance(0, 1, true), 2);
        Check.fine(x, "chance of a lady", x.chance(2, 0, false), 3);
        Check.fine(x, "chance of a lady", x.chance(2, 0, true), 5);
        Check.refused(x, "chance of no way", x.chance(0, 2, true), -1, 1);
        Check.refused(x, "chance of none", x.chance(5, 0, true), -1, 1);
        Check.fine(x, "bestWay a", x.bestWay(0), 0);
        Check.fine(x, "bestWay of a miser", x.bestWay(3), 0);
        Check.refused(x, "bestWay 5", x.bestWay(5), -1, 1);
    }

    /** On from one south to another, in order; none twice; five ways at most. */
    private static void rows() {
        UmbrellaFlight x = Check.told("flight days 9 grows 0 room 9;stop h hall;stop b south;stop c strait;stop d south;"
            + "stop e south;stop f south;stop g south;way h c wind 0 loss 0;way h b wind 0 loss 50;way b c wind 0 loss 0;"
            + "way c d wind 0 loss 0;way d b wind 0 loss 50;way d h wind 0 loss 0;way d e wind 0 loss 1;way e f wind 0 loss 1;"
            + "way f g wind 0 loss 50;umbrella a black strong 0 home h;umbrella l lady strong 0 home h", 2);
        int[][] rows = {{0, 1}, {0, 1, 2, 3}, {0, 1, 2, 3, 4}, {0, 1, 2, 3, 4, 5}, {0, 2, 3}, {0, 2, 3, 1}, {0, 2, 3, 4},
            {0, 2, 3, 4, 5}, {0, 2, 3, 4, 5, 6}};
        Check.fine(x, "waysOut", x.waysOut(0), rows.length);
        for (int k = 0; k < rows.length; k++) {
            for (int i = 0; i < rows[k].length; i++) {
                Check.fine(x, "wayOut " + k + " " + i, x.wayOut(0, k, i), rows[k][i]);
            }
            Check.refused(x, "wayOut's end " + k, x.wayOut(0, k, rows[k].length), -1, 1);
        }
        Check.fine(x, "chance 3", x.chance(0, 3, false), 9801);
        Check.fine(x, "chance 3", x.chance(0, 3, true), 20000);
        Check.fine(x, "chance 4", x.chance(0, 4, false), 1);
        Check.fine(x, "chance 4", x.chance(0, 4, true), 1);
        Check.fine(x, "a lady's 0", x.chance(1, 0, false), 0);
        Check.fine(x, "a lady's 0 by 1", x.chance(1, 0, true), 1);
        Check.fine(x, "a lady's chance 7", x.chance(1, 7, false), 2401);
        Check.fine(x, "a lady's chance 7", x.chance(1, 7, true), 2500);
        Check.fine(x, "bestWay", x.bestWay(0), 4);
        x = Check.told(Check.ONE + ";stop y south;way h y wind 9 loss 1;stop k hall;umbrella b golf strong 0 home k", 2);
        Check.fine(x, "the first best", x.bestWay(0), 0);
        Check.fine(x, "no way out", x.waysOut(1), 0);
        Check.refused(x, "best of no way", x.bestWay(1), -1, 6);
        x = Check.told(Check.HEAD + ";umbrella l lady strong 1 home h;stop y south;way h y wind 0 loss 0", 1);
        Check.fine(x, "a later one is better", x.bestWay(0), 1);
    }

    private static void bestDay() {
        UmbrellaFlight x = Check.told(Check.MAP, 5);
        Check.fine(x, "bestDay a", x.bestDay(0), 0);
        Check.fine(x, "bestMany a", x.bestMany(0), 3);
        Check.fine(x, "nothing is changed by it", x.umbrella(0, 3), 1);
        Check.fine(x, "nor the year", x.at(0, 0), 0);
        Check.refused(x, "bestDay d", x.bestDay(3), -1, 6);
        Check.refused(x, "bestMany d", x.bestMany(3), -1, 6);
        Check.refused(x, "bestDay 5", x.bestDay(5), -1, 1);
        Check.refused(x, "bestMany -1", x.bestMany(-1), -1, 1);
        // b is strong enough only with the golf one, which sets out on day 2
        x = Check.told("flight days 4 grows 0 room 9;stop h hall;stop z south;way h z wind 5 loss 0;"
            + "umbrella g golf strong 5 home h;umbrella b black strong 3 home h;flies g 2 z;flies b 0 z", 2);
        Check.fine(x, "arrived", x.arrived(), 1);
        Check.fine(x, "bestDay b", x.bestDay(1), 2);
        Check.fine(x, "bestMany b", x.bestMany(1), 2);
        Check.fine(x, "bestDay g", x.bestDay(0), 0);
        Check.fine(x, "keep b", x.keep(1, true));
        Check.fine(x, "bestDay of one kept", x.bestDay(1), 0);
        Check.fine(x, "bestMany of one kept", x.bestMany(1), 1);
    }

    private static void fits() {
        UmbrellaFlight x = Check.told(Check.MAP + ";ring a s 1;ring c z 3;ring c k 1", 5);
        Check.fine(x, "fits a", x.fits(0), 1);
        Check.fine(x, "could a", x.could(0), 12);
        Check.fine(x, "surely a", x.surely(0), 12);
        Check.fine(x, "likeliest a", x.likeliest(0), 1000);
        Check.fine(x, "count a", x.count(0), 0);
        Check.fine(x, "countMost a", x.countMost(0), 1);
        Check.fine(x, "fits b", x.fits(1), 12);
        Check.fine(x, "could b", x.could(1), 12);
        Check.fine(x, "surely b", x.surely(1), 8);
        Check.fine(x, "likeliest b", x.likeliest(1), 0);
        Check.fine(x, "count b", x.count(1), 2);
        Check.fine(x, "countMost b", x.countMost(1), 6);
        Check.fine(x, "fits c", x.fits(2), 1);
        Check.fine(x, "likeliest c", x.likeliest(2), 2000);
        Check.fine(x, "fits of a miser", x.fits(3), 6);
        Check.fine(x, "keep b", x.keep(1, true));
        Check.fine(x, "fits of one kept", x.fits(1), 12);
        for (int u = -1; u < 6; u += 6) {
            Check.refused(x, "fits " + u, x.fits(u), -1, 1);
            Check.refused(x, "could " + u, x.could(u), -1, 1);
            Check.refused(x, "surely " + u, x.surely(u), -1, 1);
            Check.refused(x, "likeliest " + u, x.likeliest(u), -1, 1);
            Check.refused(x, "count " + u, x.count(u), -1, 1);
            Check.refused(x, "countMost " + u, x.countMost(u), -1, 1);
        }
    }

    private static void moreFits() {
        UmbrellaFlight x = Check.told(Check.MAP + ";ring a z 0;ring b k 1;ring e s 5", 5);
        Check.fine(x, "on day 0 by the straight way only", x.fits(0), 1);
        Check.fine(x, "its number", x.likeliest(0), 1);
        Check.fine(x, "none fits", x.fits(1), 0);
        Check.fine(x, "could be nowhere", x.could(1), 0);
        Check.fine(x, "surely nowhere", x.surely(1), 0);
        Check.refused(x, "likeliest of none", x.likeliest(1), -1, 6);
        Check.refused(x, "count of none", x.count(1), -1, 6);
        Check.refused(x, "countMost of none", x.countMost(1), -1, 6);
        Check.fine(x, "a way out that the days cut off", x.fits(4), 1);
        Check.fine(x, "all its stops count", x.could(4), 12);
        Check.fine(x, "its day", x.likeliest(4), 5000);
        // a ring of day 0 at home: any later day; both ways by chance, then days
        x = Check.told("flight days 3 grows 0 room 9;stop h hall;stop z south;stop y south;way h z wind 9 loss 20;"
            + "way h y wind 9 loss 10;umbrella a black strong 0 home h;ring a h 0", 1);
        Check.fine(x, "fits", x.fits(0), 4);
        Check.fine(x, "likeliest", x.likeliest(0), 1001);
        Check.fine(x, "could", x.could(0), 6);
        Check.fine(x, "surely", x.surely(0), 0);
        Check.fine(x, "count", x.count(0), 1);
        Check.fine(x, "countMost", x.countMost(0), 2);
        Check.fine(x, "another flight is weighed anew", Check.tell(x, Check.ONE), 1);
        Check.fine(x, "fits anew", x.fits(0), 5);
        Check.fine(x, "count anew", x.count(0), 1);
        Check.fine(x, "countMost anew", x.countMost(0), 3);
    }

    public static void main(String[] args) {
        waysOut();
        rows();
        bestDay();
        fits();
        moreFits();
        Check.end();
    }
}
