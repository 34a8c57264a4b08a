/** Promises 1 to 5: a new object, the tape, the text and its faults. */
public final class FlightTest {
    private static void newObject() {
        UmbrellaFlight x = new UmbrellaFlight();
        Check.due("NONE", UmbrellaFlight.NONE, -1);
        Check.due("trouble of a new one", x.trouble(), 0);
        Check.due("fault of a new one", x.fault(), 0);
        Check.due("where of a new one", x.where(), -1);
        for (int what = 0; what <= 14; what++) {
            Check.due("size of a new one, " + what, x.size(what), 0);
        }
        Check.refused(x, "stop of none", x.stop(0), -1, 1);
        Check.refused(x, "umbrella of none", x.umbrella(0, 0), -1, 1);
        Check.refused(x, "at of none", x.at(0, 0), -1, 1);
        Check.refused(x, "many of none", x.many(0, 0), -1, 1);
        Check.refused(x, "arrived of none", x.arrived(), -1, 1);
        Check.refused(x, "wedge of none", x.wedge(), -1, 1);
        Check.refused(x, "strongest of none", x.strongest(), -1, 1);
        Check.refused(x, "judge of none", x.judge(), -1, 1);
        Check.refused(x, "waysOut of none", x.waysOut(0), -1, 1);
        Check.refused(x, "fits of none", x.fits(0), -1, 1);
        Check.refused(x, "wet of none", x.wet(99), -1, 1);
        Check.refused(x, "wetDays of none", x.wetDays(0), -1, 1);
        Check.refused(x, "handings of none", x.handings(), -1, 1);
        Check.refused(x, "mean of none", x.mean(true), -1, 1);
        Check.refused(x, "go of none", x.go(0, true), -1, 1);
        Check.refused(x, "herd of none", x.herd(-1, 0, 0), -1, 1);
        Check.refused(x, "mostTaken of none", x.mostTaken(-1, 0), -1, 1);
        Check.refused(x, "yearBy of none", x.yearBy(-1), -1, 1);
        Check.refused(x, "seasons of none", x.seasons(-1, 0), -1, 1);
        Check.refused(x, "keep of none", x.keep(0, true), 1);
        Check.refused(x, "send of none", x.send(0, 0, 0), 1);
        Check.refused(x, "mend of none", x.mend(0), -1, 1);
        Check.refused(x, "undo of none", x.undo(), 6);
        Check.refused(x, "mark of none", x.mark(), -1, 1);
        Check.refused(x, "back of none", x.back(0), 1);
        Check.due("led of none", Check.led(x, 0), -3);
    }

    private static void tape() {
        UmbrellaFlight x = new UmbrellaFlight();
        x.arrived();
        for (int i = 1; i <= 55; i++) {
            Check.due("feed " + i, x.feed(0x20202020, 0x20202020, 0x20202020, 0x20202020, 0x20202020), 20 * i);
        }
        Check.due("feed of one more", x.feed(1, 2, 3, 4, 5), -1);
        Check.due("the tape is full", x.size(14), 1100);
        Check.due("feed leaves trouble as it was", x.trouble(), 1);
        Check.refused(x, "flight(1101)", x.flight(1101), -1, 2);
        Check.refused(x, "flight(-1)", x.flight(-1), -1, 2);
        Check.due("where by 2", x.where(), -1);
        Check.due("the tape stays", x.size(14), 1100);
        Check.refused(x, "flight(1100) of blanks", x.flight(1100), -1, 4);
        Check.due("fault of blanks", x.fault(), 1);
        Check.due("where of blanks", x.where(), 1100);
        Check.due("the tape is empty behind 4", x.size(14), 0);
        // bytes of the second number, the highest first: a bad one stands at 6
        x.feed(0x666c6967, 0x6874ff20, -1, 0, 0);
        Check.refused(x, "flight(20) of odd bytes", x.flight(20), -1, 4);
        Check.due("where of odd bytes", x.where(), 6);
        Check.due("fault of odd bytes", x.fault(), 1);
        Check.feed(x, Check.ONE + " ; $$$");
        Check.refused(x, "flight of too many", x.flight(9999), -1, 2);
        Check.due("fault stays behind 2", x.fault(), 1);
        Check.due("where behind 2", x.where(), -1);
        Check.fine(x, "flight of the first bytes", x.flight(Check.ONE.length()), 1);
        Check.due("fault behind a good one", x.fault(), 0);
        Check.due("the tape is empty", x.size(14), 0);
        Check.refused(x, "flight of an empty tape", x.flight(1), -1, 2);
    }

    private static void flightsThatStay() {
        UmbrellaFlight x = Check.told(Check.ONE + ";flies a 1 z", 1);
        Check.fine(x, "keep", x.keep(0, true));
        Check.fine(x, "mark", x.mark(), 0);
        Check.fine(x, "mend", x.mend(0), 2);
        Check.refused(x, "a text with a fault", Check.tell(x, "flight days 30"), -1, 4);
        Check.due("where", x.where(), 12);
        Check.due("days stay", x.size(0), 5);
        Check.fine(x, "kept stays", x.umbrella(0, 5), 1);
        Check.due("where behind another call", x.where(), -1);
        Check.due("fault behind another call", x.fault(), 4);
        Check.fine(x, "strong stays", x.umbrella(0, 1), 2);
        Check.due("acts stay", x.size(12), 2);
        Check.due("marks stay", x.size(13), 1);
        Check.fine(x, "another flight", Check.tell(x, Check.ONE + ";umbrella b golf strong 3 home h"), 2);
        Check.fine(x, "none kept", x.umbrella(0, 5), 0);
        Check.fine(x, "strong as told", x.umbrella(0, 1), 1);
        Check.fine(x, "doesn't fly", x.umbrella(0, 3), -2);
        Check.due("nothing to undo", x.size(12), 0);
        Check.due("no marks", x.size(13), 0);
        Check.refused(x, "undo", x.undo(), 6);
        Check.refused(x, "back", x.back(0), 1);
    }

    private static void forms() {
        String h = Check.HEAD;
        String one = Check.ONE;
        int end = one.length();
        Check.faulty("", 1, 0);
        Check.faulty("   ", 1, 3);
        Check.faulty(";", 1, 0);
        Check.faulty("days", 1, 0);
        Check.faulty("Flight", 1, 0);
        Check.faulty("flight", 1, 6);
        Check.faulty("flight  ", 1, 8);
        Check.faulty("flight 5", 1, 7);
        Check.faulty("flight days 5 room", 1, 14);
        Check.faulty("flight days five", 1, 12);
        Check.faulty("flight days 1000", 1, 12);
        Check.faulty("flight days 5 grows 1 room 9 9", 1, 29);
        Check.faulty("flight days 5 grows 1 room 9\n", 1, 28);
        Check.faulty("flight days 5 grows 1 room 9,", 1, 28);
        Check.faulty(one + ";", 1, end + 1);
        Check.faulty(one + ";;", 1, end + 1);
        Check.faulty(one + " hall", 1, end + 1);
        Check.faulty(one + ";stop abcdefghi hall", 1, end + 6);
        Check.faulty(one + ";stop 7 hall", 1, end + 6);
        Check.faulty(one + ";stop wind hall", 1, end + 6);
        Check.faulty(one + ";stop k", 1, end + 7);
        Check.faulty(one + ";way wind", 1, end + 5);
        Check.faulty(one + ";way h 1", 1, end + 7);
        Check.faulty(one + ";way z h loss", 1, end + 9);
        Check.faulty(one + ";ring stop", 1, end + 6);
        Check.faulty(one + ";flies a 0 out", 1, end + 11);
        Check.faulty(one + ";flies a 0 z h", 1, end + 13);
        Check.faulty(one + ";flies a 0 z,", 1, end + 13);
        Check.faulty(one + ";flies a z", 1, end + 9);
        Check.faulty(one + ";umbrella b", 1, end + 11);
        Check.faulty(one + ";umbrella b red strong", 1, end + 12);
        Check.faulty(one + ";owner o h;out o 1 2", 1, end + 19);
        Check.faulty(one + ";wind 5 bad", 1, end + 8);
        Check.faulty(h + ";umbrella a black strong 1 home 5", 1, h.length() + 32);
        for (String word : "flight stop way umbrella flies ring back owner out rain wind".split(" ")) {
            Check.faulty(one + ";owner " + word, 1, end + 7);
        }
        Check.told(one + ";stop hall hall;stop to south;stop abcdefgh strait;owner days hall;owner strong h;out days 1 to 2",
            1);
        Check.told("  flight days05grows 099room001 ;stop h hall;umbrella  a lady strong 030 home h  ", 1);
    }

    private static void namesAndBounds() {
        String one = Check.ONE;
        int end = one.length();
        Check.faulty(one + ";way q", 2, end + 5);
        Check.faulty(one + ";way a", 2, end + 5);
        Check.faulty(one + ";way h q", 2, end + 7);
        Check.faulty(one + ";flies h", 2, end + 7);
        Check.faulty(one + ";flies a 1 a", 2, end + 11);
        Check.faulty(one + ";ring a q", 2, end + 8);
        Check.faulty(one + ";back z", 2, end + 6);
        Check.faulty(one + ";back a z", 2, end + 8);
        Check.faulty(one + ";owner o z", 2, end + 9);
        Check.faulty(one + ";owner o o", 2, end + 9);
        Check.faulty(one + ";out a", 2, end + 5);
        Check.faulty(one + ";umbrella b golf strong 1 home z", 2, end + 31);
        Check.faulty(one + ";umbrella h", 3, end + 10);
        Check.faulty(one + ";owner a", 3, end + 7);
        Check.faulty(one + ";stop z", 3, end + 6);
        Check.faulty(one + ";way z z", 3, end + 7);
        Check.faulty(one + ";way h z", 3, end + 7);
        Check.told(one + ";way z h wind 9 loss 50", 1);
        Check.faulty(one + ";rain 3;rain 3", 3, end + 13);
        Check.faulty(one + ";back a h;back a", 3, end + 15);
        Check.faulty(one + ";flies a 1 z;flies a", 3, end + 19);
        Check.faulty(one + ";flight", 3, end + 1);
        Check.faulty("flight days 1", 4, 12);
        Check.faulty("flight days 21", 4, 12);
        Check.faulty("flight days 2 grows 100", 4, 20);
        Check.faulty("flight days 2 grows 99 room 0", 4, 28);
        Check.told("flight days 20 grows 99 room 999;stop h hall;umbrella a golf strong 30 home h;rain 19", 1);
        Check.told("flight days 2 grows 0 room 1;stop h hall;umbrella a golf strong 0 home h;rain 1", 1);
        Check.faulty(one + ";way z h wind 10", 4, end + 14);
        Check.faulty(one + ";way z h wind 9 loss 51", 4, end + 21);
        Check.faulty(one + ";umbrella b golf strong 31", 4, end + 24);
        Check.faulty(one + ";flies a 5", 4, end + 9);
        Check.faulty(one + ";ring a h 5", 4, end + 10);
        Check.faulty(one + ";rain 5", 4, end + 6);
        Check.faulty(one + ";owner o h;out o 5", 4, end + 17);
        Check.faulty(one + ";owner o h;out o 3 to 5", 4, end + 22);
        Check.faulty(one + ";owner o h;out o 3 to 2", 4, end + 22);
        Check.faulty(one + ";wind 101", 4, end + 6);
        Check.faulty(one + ";wind 100 good 100", 4, end + 15);
        Check.faulty(one + ";wind 100 good 99 bad 100", 4, end + 22);
        Check.faulty("stop h hall", 6, 0);
        Check.faulty("  wind", 6, 2);
        Check.faulty(Check.HEAD, 6, Check.HEAD.length());
        Check.faulty(Check.HEAD + "  ", 6, Check.HEAD.length() + 2);
        Check.faulty(Check.HEAD + " ;", 1, Check.HEAD.length() + 2);
        Check.faulty(one + ";flies a 0 h", 7, end + 11);
        Check.faulty(one + ";flies a 0 z,z", 7, end + 13);
    }

    /** A line more of its sort than there is room for. */
    private static void tooMany() {
        tooMany(Check.ONE, 6, "stop s% strait");
        StringBuilder map = new StringBuilder(Check.ONE);
        for (int i = 0; i < 6; i++) {
            map.append(";stop s").append((char) ('a' + i)).append(" strait");
        }
        StringBuilder ways = new StringBuilder(map);
        for (int i = 0; i < 13; i++) {
            ways.append(";way ").append(i < 6 ? "h" : i < 12 ? "z" : "sa").append(" s").append((char) ('a' + (i == 12 ? 1 : i % 6)))
                .append(" wind 1 loss 1");
        }
        Check.told(ways.toString(), 1);
        Check.faulty(ways + ";way sc sd", 5, ways.length() + 1);
        tooMany(Check.ONE, 5, "umbrella u% golf strong 1 home h");
        tooMany(Check.ONE, 8, "ring a h 1");
        tooMany(Check.ONE, 6, "owner o% h");
        tooMany(Check.ONE + ";owner o h", 10, "out o 1 to 2");
        tooMany(Check.ONE, 6, "wind 1 good 1 bad 1");
        String rains = "flight days 20 grows 1 room 9;stop h hall;umbrella a black strong 1 home h";
        for (int i = 0; i < 10; i++) {
            rains += ";rain " + i;
        }
        Check.told(rains, 1);
        Check.faulty(rains + ";rain 11", 5, rains.length() + 1);
        Check.faulty(rains + ";rain 0", 5, rains.length() + 1);
        String there = Check.ONE + ";way z h wind 1 loss 1;flies a 0 z,h,z,h,z";
        Check.told(there, 1);
        Check.faulty(there + ",h", 5, there.length() + 1);
        Check.faulty(there + ",z", 5, there.length() + 1);
        Check.faulty(there + ",q", 2, there.length() + 1);
        Check.faulty(there + ",7", 1, there.length() + 1);
        Check.faulty(there + ",", 1, there.length() + 1);
    }

    private static void tooMany(String ahead, int room, String line) {
        StringBuilder text = new StringBuilder(ahead);
        for (int i = 0; i < room; i++) {
            text.append(";").append(line.replace('%', (char) ('a' + i)));
        }
        UmbrellaFlight x = new UmbrellaFlight();
        Check.feed(x, text.toString());
        Check.due("room for " + line, x.flight(text.length()) > 0, true);
        Check.faulty(text + ";" + line.replace('%', 'y'), 5, text.length() + 1);
    }

    public static void main(String[] args) {
        newObject();
        tape();
        flightsThatStay();
        forms();
        namesAndBounds();
        tooMany();
        Check.end();
    }
}
