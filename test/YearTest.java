/** Promises 6 to 18, and 48: what is told, and a year day by day. */
public final class YearTest {
    private static void told() {
        UmbrellaFlight x = Check.told(Check.MAP, 5);
        Check.fine(x, "stop h", x.stop(0), 0);
        Check.fine(x, "stop s", x.stop(2), 1);
        Check.fine(x, "stop z", x.stop(3), 2);
        Check.refused(x, "stop -1", x.stop(-1), -1, 1);
        Check.refused(x, "stop 4", x.stop(4), -1, 1);
        Check.fine(x, "wind h s", x.way(0, 2, 0), 4);
        Check.fine(x, "loss h s", x.way(0, 2, 1), 10);
        Check.fine(x, "no way back", x.way(2, 0, 1), -2);
        Check.fine(x, "no way to itself", x.way(2, 2, 0), -2);
        Check.refused(x, "way of what", x.way(0, 2, 2), -1, 1);
        Check.refused(x, "way of what, without one", x.way(2, 0, -1), -1, 1);
        Check.refused(x, "way from none", x.way(4, 0, 0), -1, 1);
        Check.refused(x, "way to none", x.way(0, -1, 0), -1, 1);
        int[][] due = {{0, 7, 0, 1, 2, 0}, {1, 9, 0, 1, 2, 0}, {2, 5, 1, 2, 2, 0}, {4, 9, 1, -2, 0, 0}, {3, 6, 0, 1, 1, 0}};
        for (int u = 0; u < 5; u++) {
            for (int what = 0; what < 6; what++) {
                Check.fine(x, "umbrella " + u + " " + what, x.umbrella(u, what), due[u][what]);
            }
            Check.refused(x, "umbrella of what", x.umbrella(u, 6), -1, 1);
            Check.refused(x, "umbrella of what", x.umbrella(u, -1), -1, 1);
        }
        Check.refused(x, "umbrella 5", x.umbrella(5, 0), -1, 1);
        Check.fine(x, "flies c 0", x.flies(2, 0), 2);
        Check.fine(x, "flies c 1", x.flies(2, 1), 3);
        Check.refused(x, "flies c 2", x.flies(2, 2), -1, 1);
        Check.refused(x, "flies c -1", x.flies(2, -1), -1, 1);
        Check.refused(x, "flies d 0", x.flies(3, 0), -1, 1);
        Check.refused(x, "flies 5", x.flies(5, 0), -1, 1);
    }

    /** a and b fly together, c goes alone, d stays, e falls. */
    private static void year() {
        UmbrellaFlight x = Check.told(Check.MAP, 5);
        int[][] places = {{0, 2, 3, 3, 3, 3}, {0, 2, 3, 3, 3, 3}, {1, 1, 2, 3, 3, 3}, {1, 1, 1, 1, 1, 1}, {0, -2, -2, -2, -2, -2}};
        int[][] strengths = {{7, 5, 4, 4, 4, 4}, {9, 6, 4, 4, 4, 4}, {5, 5, 3, 0, 0, 0}, {9, 9, 9, 9, 9, 9}, {6, 6, 6, 6, 6, 6}};
        int[][] flocks = {{0, 3, 3, 0, 0, 0}, {0, 3, 3, 0, 0, 0}, {0, 0, 4, 4, 0, 0}, {0, 0, 0, 0, 0, 0}, {0, 16, 0, 0, 0, 0}};
        for (int u = 0; u < 5; u++) {
            for (int day = 0; day < 6; day++) {
                Check.fine(x, "at " + u + " " + day, x.at(u, day), places[u][day]);
                Check.fine(x, "strength " + u + " " + day, x.strength(u, day), strengths[u][day] );
                Check.fine(x, "flock " + u + " " + day, x.flock(u, day), flocks[u][day]);
            }
            Check.fine(x, "falls " + u, x.falls(u), u == 4 ? 1 : -2);
        }
        Check.fine(x, "arrived", x.arrived(), 7);
        Check.fine(x, "wedge", x.wedge(), 2);
        Check.fine(x, "strongest", x.strongest(), 0);
        Check.fine(x, "judge without rings", x.judge(), -2);
        Check.fine(x, "many at h on 0", x.many(0, 0), 3);
        Check.fine(x, "many at h on 1", x.many(0, 1), 0);
        Check.fine(x, "many at z on 5", x.many(3, 5), 3);
        Check.refused(x, "many at 4", x.many(4, 9), -1, 1);
        Check.refused(x, "many on 6", x.many(3, 6), -1, 2);
        Check.refused(x, "at 5", x.at(5, 9), -1, 1);
        Check.refused(x, "at day 6", x.at(0, 6), -1, 2);
        Check.refused(x, "at day -1", x.at(0, -1), -1, 2);
        Check.refused(x, "strength -1", x.strength(-1, 0), -1, 1);
        Check.refused(x, "strength day 6", x.strength(0, 6), -1, 2);
        Check.refused(x, "flock 5", x.flock(5, 0), -1, 1);
        Check.refused(x, "flock day -1", x.flock(0, -1), -1, 2);
        Check.refused(x, "falls 5", x.falls(5), -1, 1);
        Check.due("led 0", Check.led(x, 0), 4);
        Check.due("led 1", Check.led(x, 1), -3);
        Check.due("led -1", Check.led(x, -1), -3);
        Check.due("led leaves trouble", x.trouble(), 1);
    }

    private static String flock(int wind, String... kindsAndStrong) {
        StringBuilder text = new StringBuilder("flight days 3 grows 0 room 9;stop h hall;stop z south;stop s strait;"
            + "way h z wind " + wind + " loss 0;way h s wind 0 loss 0;way z h wind 0 loss 0");
        for (int i = 0; i < kindsAndStrong.length; i++) {
            String[] parts = kindsAndStrong[i].split(" ");
            char name = (char) ('a' + i);
            text.append(";umbrella ").append(name).append(' ').append(parts[0]).append(" strong ").append(parts[1])
                .append(" home h;flies ").append(name).append(" 0 z");
        }
        return text.toString();
    }

    private static void costs() {
        UmbrellaFlight x = Check.told(flock(5, "black 9"), 1);
        Check.fine(x, "alone", x.strength(0, 0), 4);
        x = Check.told(flock(5, "black 9", "lady 9"), 2);
        Check.fine(x, "two", x.strength(0, 0), 5);
        Check.fine(x, "two", x.strength(1, 0), 5);
        x = Check.told(flock(5, "black 9", "golf 9", "folding 9"), 3);
        Check.fine(x, "with a golf one", x.strength(0, 0), 6);
        Check.fine(x, "the golf one itself", x.strength(1, 0), 5);
        Check.fine(x, "a folding one with a golf one", x.strength(2, 0), 5);
        x = Check.told(flock(5, "golf 9", "golf 9"), 2);
        Check.fine(x, "two golf ones", x.strength(0, 0), 6);
        Check.fine(x, "wedge", x.wedge(), 2);
        x = Check.told(flock(0, "folding 9", "golf 9"), 2);
        Check.fine(x, "0 at least, folding", x.strength(0, 0), 9);
        Check.fine(x, "0 at least", x.strength(1, 0), 9);
        x = Check.told(flock(0, "folding 0"), 1);
        Check.fine(x, "a folding one's one more", x.falls(0), 0);
        x = Check.told(flock(1, "folding 9", "black 0"), 2);
        Check.fine(x, "just as strong", x.falls(1), -2);
        x = Check.told(flock(4, "black 2", "golf 3", "miser 9"), 3);
        Check.fine(x, "with a golf one just as strong", x.at(0, 0), 1);
        Check.fine(x, "flock without the miser", x.flock(0, 0), 3);
        Check.fine(x, "miser stays", x.at(2, 2), 0);
        Check.fine(x, "one falls, but is of the flock", x.strength(0, 0), 0);
        x = Check.told(flock(4, "black 2", "golf 2"), 2);
        Check.fine(x, "falls with the flock", x.falls(1), 0);
        Check.fine(x, "as it fell", x.strength(1, 2), 2);
        Check.fine(x, "the other one gains by it", x.at(0, 0), 1);
        Check.fine(x, "flock of the fallen", x.flock(1, 0), 3);
        Check.fine(x, "arrived", x.arrived(), 1);
        x = Check.told(flock(9, "black 1", "black 9", "lady 8", "miser 0"), 4);
        Check.due("led 0", Check.led(x, 0), 0);
        Check.due("led 1", Check.led(x, 1), -3);
        Check.fine(x, "strongest", x.strongest(), 1);
        x = Check.told(flock(9, "black 1", "black 2"), 2);
        Check.due("led 1 of two", Check.led(x, 1), 1);
        Check.fine(x, "strongest of none", x.strongest(), -2);
    }

    /** One that flies on from the south hasn't arrived; the year may end too soon. */
    private static void ends() {
        String ahead = "flight days 3 grows 0 room 9;stop h hall;stop z south;stop y south;way h z wind 1 loss 0;"
            + "way z h wind 1 loss 0;way z y wind 1 loss 0;umbrella a black strong 9 home h;";
        UmbrellaFlight x = Check.told(ahead + "flies a 0 z,h", 1);
        Check.fine(x, "behind the first day", x.at(0, 0), 1);
        Check.fine(x, "back at home", x.arrived(), 0);
        x = Check.told(ahead + "flies a 0 z,h,z,h", 1);
        Check.fine(x, "as far as the days go", x.at(0, 2), 1);
        Check.fine(x, "ways it takes", x.umbrella(0, 4), 4);
        Check.fine(x, "arrived by the end of days", x.arrived(), 1);
        x = Check.told(ahead + "flies a 2 z,y", 1);
        Check.fine(x, "sets out on the last day", x.at(0, 2), 1);
        Check.fine(x, "not ahead of it", x.at(0, 1), 0);
        x = Check.told(ahead + "umbrella b black strong 9 home h;flies a 0 z,y;flies b 1 z,y", 2);
        Check.fine(x, "no flock on other days", x.wedge(), 1);
        Check.fine(x, "flock a", x.flock(0, 1), 1);
    }

    /** The south may be told first: stop 0 is as good as any. */
    private static void southFirst() {
        UmbrellaFlight x = Check.told("flight days 3 grows 0 room 9;stop z south;stop h hall;way h z wind 1 loss 0;"
            + "umbrella a black strong 9 home h;flies a 0 z", 1);
        Check.fine(x, "arrived at stop 0", x.arrived(), 1);
        Check.fine(x, "at stop 0", x.at(0, 0), 0);
        Check.fine(x, "many at stop 0", x.many(0, 2), 1);
        Check.fine(x, "strongest at stop 0", x.strongest(), 0);
        Check.fine(x, "could be at stop 0", x.could(0), 1);
        Check.fine(x, "the home's number", x.umbrella(0, 2), 1);
        Check.fine(x, "by draws", x.yearBy(0), 1);
    }

    private static void rings() {
        UmbrellaFlight x = Check.told(Check.MAP + ";ring a h 0;ring a s 1;ring c z 3;ring d k 5;ring e s 1;ring a h 1", 5);
        Check.fine(x, "a fallen one is nowhere", x.judge(), 4);
        Check.due("rings", x.size(6), 6);
        x = Check.told(Check.MAP + ";ring a h 0;ring a s 2;ring e s 1", 5);
        Check.fine(x, "the first that isn't right", x.judge(), 1);
        x = Check.told(Check.MAP + ";ring a z 5;ring c s 2", 5);
        Check.fine(x, "all right", x.judge(), -2);
        Check.fine(x, "kept", x.keep(0, true));
        Check.fine(x, "not so if kept", x.judge(), 0);
    }

    public static void main(String[] args) {
        told();
        year();
        costs();
        ends();
        southFirst();
        rings();
        Check.end();
    }
}
