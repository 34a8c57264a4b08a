/** Promises 1 to 5: each sentence that names an edge, by a test of its own. */
public final class FlightEdgesTest {
    private static final String ONE = Check.ONE;
    private static final String BAD = "flight days 30";
    private static final int BLANKS = 0x20202020;
    private static final int STOP = 's' << 24 | 't' << 16 | 'o' << 8 | 'p';
    private static final int[] FAR = {-1, Integer.MIN_VALUE, Integer.MAX_VALUE};

    private static int feedBlanks(UmbrellaFlight x) {
        return x.feed(BLANKS, BLANKS, BLANKS, BLANKS, BLANKS);
    }

    private static void noFlight() {
        Check.sentence("1: No FLIGHT.");
        for (int which = Calls.FIRST; which <= Calls.LAST; which++) {
            UmbrellaFlight x = new UmbrellaFlight();
            String call = "the call of promise " + which;
            if (Calls.mayBeRefused(which)) {
                Check.refused(x, call, Calls.ask(x, which, 0, 0, 0), Calls.refusal(which), which == 45 ? 6 : 1);
            } else {
                int[] due = {0, -1};
                Check.fine(x, call, Calls.ask(x, which, 0, 0, 0), which < 6 ? due[which - 4] : which == 48 ? -3 : 0);
            }
        }
        for (int what = 0; what <= 14; what++) {
            Check.due("size of what there isn't, " + what, new UmbrellaFlight().size(what), 0);
        }
    }

    /** Where more than one number could be told, the one of no flight is told first. */
    private static void noFlightFirst() {
        Check.sentence("1: 1 (no FLIGHT), ahead of a number and of what there is none of");
        for (int which = 6; which < 48; which++) {
            UmbrellaFlight x = new UmbrellaFlight();
            Check.refused(x, "the call of promise " + which + " with far numbers", Calls.ask(x, which, -1, -1, -1),
                Calls.refusal(which), which == 45 ? 6 : 1);
        }
    }

    private static void howManyBytes() {
        Check.sentence("2: how many it has");
        UmbrellaFlight x = new UmbrellaFlight();
        Check.due("none yet", x.size(14), 0);
        for (int i = 1; i <= 55; i++) {
            Check.due("feed " + i, feedBlanks(x), 20 * i);
            Check.due("size behind feed " + i, x.size(14), 20 * i);
        }
    }

    private static void noMoreBytes() {
        Check.sentence("2: NONE, and none comes, if there would be more than 1,100");
        String text = ONE + " ".repeat(1100 - ONE.length() - 7) + ";rain 4";
        UmbrellaFlight x = new UmbrellaFlight();
        Check.feed(x, text);
        Check.due("the tape is full", x.size(14), 1100);
        for (int i = 0; i < 3; i++) {
            Check.due("feed of more", x.feed(-1, -1, -1, -1, -1), -1);
            Check.due("none came", x.size(14), 1100);
        }
        Check.refused(x, "flight of more", x.flight(1101), -1, 2);
        Check.fine(x, "all as it was fed", x.flight(1100), 1);
        Check.due("its last line, too", x.size(10), 1);
        Check.due("there is room again", feedBlanks(x), 20);
    }

    private static void highestFirst() {
        Check.sentence("2: Twenty bytes come behind THE TAPE, of each number the highest first");
        for (int i = 0; i < 5; i++) {
            int[] n = {BLANKS, BLANKS, BLANKS, BLANKS, BLANKS};
            n[i] = STOP;
            faultOfBytes(n, 6, 4 * i);
            n[i] = Integer.reverseBytes(STOP);
            faultOfBytes(n, 1, 4 * i);
            for (int k = 0; k < 4; k++) {
                n[i] = BLANKS | 255 << 24 - 8 * k;
                faultOfBytes(n, 1, 4 * i + k);
            }
        }
        UmbrellaFlight x = new UmbrellaFlight();
        feedBlanks(x);
        x.feed(STOP, BLANKS, BLANKS, BLANKS, BLANKS);
        Check.refused(x, "behind the tape", x.flight(40), -1, 4);
        Check.due("its place", x.where(), 20);
    }

    private static void faultOfBytes(int[] n, int fault, int place) {
        UmbrellaFlight x = new UmbrellaFlight();
        x.feed(n[0], n[1], n[2], n[3], n[4]);
        Check.refused(x, "flight of odd bytes", x.flight(20), -1, 4);
        Check.due("fault", x.fault(), fault);
        Check.due("where", x.where(), place);
    }

    private static void firstBytes() {
        Check.sentence("3: The first n bytes of THE TAPE are the FLIGHT");
        String text = "flight days 20 grows 1 room 9;stop h hall;umbrella a black strong 1 home h;owner o h;"
            + "out o 0 to 19;rain 19";
        for (int cut = 0; cut < 2; cut++) {
            UmbrellaFlight x = new UmbrellaFlight();
            Check.feed(x, text + "$$$");
            Check.fine(x, "flight", x.flight(text.length() - cut), 1);
            Check.due("rain on 1", x.wet(1), cut);
            Check.due("rain on 19", x.wet(19), 1 - cut);
        }
        UmbrellaFlight x = new UmbrellaFlight();
        Check.feed(x, ONE + "ome");
        Check.fine(x, "a word that goes on behind them", x.flight(ONE.length()), 1);
        Check.feed(x, ONE);
        Check.refused(x, "a line that does", x.flight(ONE.length() - 1), -1, 4);
        Check.due("FORM", x.fault(), 1);
        Check.due("at their end", x.where(), ONE.length() - 1);
    }

    private static void tapeIsEmptyThen() {
        Check.sentence("3: (it is empty then)");
        UmbrellaFlight x = Check.told(ONE, 1);
        Check.due("bytes", x.size(14), 0);
        Check.refused(x, "no more of it", x.flight(1), -1, 2);
        Check.feed(x, ONE + ";;");
        Check.refused(x, "a fault", x.flight(ONE.length() + 2), -1, 4);
        Check.due("bytes", x.size(14), 0);
        Check.refused(x, "no more of it", x.flight(ONE.length()), -1, 2);
        Check.feed(x, ONE);
        Check.refused(x, "none of them", x.flight(0), -1, 4);
        Check.due("bytes", x.size(14), 0);
        Check.due("the next come first", feedBlanks(x), 20);
    }

    private static void fromNowOn() {
        Check.sentence("3: are the FLIGHT from now on (none KEPT; nothing to undo, no MARKS)");
        UmbrellaFlight x = Check.told(ONE + ";flies a 0 z", 1);
        for (int i = 0; i < 3; i++) {
            Check.fine(x, "keep", x.keep(0, true));
            Check.fine(x, "mend", x.mend(0), 2);
            Check.fine(x, "mark", x.mark(), 0);
            Check.fine(x, "mark", x.mark(), 1);
            Check.fine(x, "the same again", Check.tell(x, ONE + ";flies a 0 z"), 1);
            Check.due("none kept", x.umbrella(0, 5), 0);
            Check.due("it flies", x.arrived(), 1);
            Check.due("strong as told", x.umbrella(0, 1), 1);
            Check.due("acts", x.size(12), 0);
            Check.due("marks", x.size(13), 0);
            Check.refused(x, "undo", x.undo(), 6);
            Check.refused(x, "back", x.back(0), 1);
        }
    }

    private static void nothingOfAnotherFlight() {
        Check.sentence("3: the FLIGHT from now on: nothing of an earlier one stays, nor of a text with a FAULT");
        String full = Check.MAP + ";ring a s 1;back a k;back b h;owner o h;out o 0 to 5;rain 0;rain 1;wind 1 good 2 bad 3";
        String plain = "flight days 6 grows 0 room 9;stop h hall;stop k hall;stop s strait;stop z south;"
            + "umbrella a black strong 1 home h;umbrella b black strong 1 home h;owner o h";
        UmbrellaFlight x = Check.told(full, 5);
        for (int i = 0; i < 2; i++) {
            Check.due("fits", x.fits(0), 1);
            Check.refused(x, "the full one with a fault", Check.tell(x, full + ";;"), -1, 4);
            Check.fine(x, "a plain one", Check.tell(x, plain), 2);
            int[] sizes = {6, 0, 9, 4, 0, 2, 0, 0, 1, 0, 0, 0, 0, 0, 0};
            for (int what = 0; what < sizes.length; what++) {
                Check.due("size " + what, x.size(what), sizes[what]);
            }
            Check.due("way", x.way(0, 2, 0), -2);
            Check.due("flies", x.umbrella(0, 3), -2);
            Check.due("ways it takes", x.umbrella(0, 4), 0);
            Check.due("ways out", x.waysOut(0), 0);
            Check.due("fits", x.fits(0), 0);
            Check.due("handings", x.handings(), 0);
            Check.due("judge", x.judge(), -2);
            Check.due("pins", x.pins(0), 0);
            Check.fine(x, "a rain day", Check.tell(x, plain + ";rain 1"), 2);
            Check.due("none is out", x.wet(1), 0);
            Check.fine(x, "one out", Check.tell(x, plain + ";out o 0 to 5"), 2);
            Check.due("no rain", x.wetDays(0), 0);
            Check.fine(x, "the full one", Check.tell(x, full), 5);
        }
    }

    private static void howManyUmbrellas() {
        Check.sentence("3: how many umbrellas");
        StringBuilder text = new StringBuilder(Check.HEAD);
        for (int n = 1; n <= 6; n++) {
            text.append(";umbrella ").append((char) ('a' + n - 1)).append(" lady strong 1 home h");
            Check.told(text.toString(), n);
        }
    }

    private static void wrongNumbers() {
        Check.sentence("3: NONE: 2 (THE TAPE stays)");
        UmbrellaFlight x = new UmbrellaFlight();
        Check.refused(x, "flight(1) of an empty tape", x.flight(1), -1, 2);
        Check.feed(x, ONE);
        int bytes = x.size(14);
        for (int n : new int[] {-1, bytes + 1, bytes + 20, 1100, 1101, Integer.MIN_VALUE, Integer.MAX_VALUE}) {
            Check.refused(x, "flight(" + n + ")", x.flight(n), -1, 2);
            Check.due("bytes", x.size(14), bytes);
        }
        Check.fine(x, "the tape is as it was", x.flight(bytes), 1);
    }

    private static void flightStays() {
        Check.sentence("3: 4 (the FLIGHT stays)");
        UmbrellaFlight x = Check.told(ONE + ";umbrella b golf strong 3 home h;flies a 1 z;back a h", 2);
        Check.fine(x, "mark", x.mark(), 0);
        Check.fine(x, "keep", x.keep(1, true));
        Check.fine(x, "mend", x.mend(0), 2);
        for (String text : new String[] {"", BAD, "flight days 9 grows 9 room 99", Check.MAP + ";", Check.MAP + ";stop q odd"}) {
            Check.refused(x, "a fault in " + text, Check.tell(x, text), -1, 4);
            Check.due("days", x.size(0), 5);
            Check.due("stops", x.size(3), 2);
            Check.due("umbrellas", x.size(5), 2);
            Check.due("kept", x.umbrella(1, 5), 1);
            Check.due("strong", x.umbrella(0, 1), 2);
            Check.due("at", x.at(0, 1), 1);
            Check.due("handings", x.handings(), 0);
            Check.due("acts", x.size(12), 2);
            Check.due("marks", x.size(13), 1);
        }
        Check.fine(x, "undo", x.undo());
        Check.due("undone", x.umbrella(0, 1), 1);
        Check.fine(x, "back", x.back(0));
        Check.due("gone back", x.umbrella(1, 5), 0);
    }

    private static void noFlightStays() {
        Check.sentence("3: 4 (the FLIGHT stays): where there is none, there is none");
        UmbrellaFlight x = new UmbrellaFlight();
        Check.refused(x, "a fault at the end", Check.tell(x, ONE + ";"), -1, 4);
        Check.refused(x, "arrived", x.arrived(), -1, 1);
        Check.refused(x, "stop", x.stop(0), -1, 1);
        Check.due("days", x.size(0), 0);
    }

    private static void faultWithoutOne() {
        Check.sentence("4: 0 without one");
        UmbrellaFlight x = new UmbrellaFlight();
        Check.due("of a new object", x.fault(), 0);
        Check.refused(x, "2", x.flight(1), -1, 2);
        Check.due("behind 2", x.fault(), 0);
        Check.fine(x, "a good one", Check.tell(x, ONE), 1);
        Check.due("behind a good one", x.fault(), 0);
        Check.refused(x, "a bad one", Check.tell(x, BAD), -1, 4);
        Check.due("behind a bad one", x.fault(), 4);
        Check.fine(x, "a good one", Check.tell(x, ONE), 1);
        Check.due("behind a good one again", x.fault(), 0);
    }

    private static void faultOfTheLatest() {
        Check.sentence("4: The FAULT of the latest flight() not refused by 2");
        UmbrellaFlight x = Check.told(ONE, 1);
        Check.refused(x, "a bad one", Check.tell(x, BAD), -1, 4);
        for (int n : FAR) {
            Check.refused(x, "2", x.flight(n), -1, 2);
            Check.due("fault", x.fault(), 4);
        }
        x.arrived();
        x.mend(0);
        feedBlanks(x);
        Check.due("fault behind other calls", x.fault(), 4);
        Check.refused(x, "blanks", x.flight(20), -1, 4);
        Check.due("the latest fault", x.fault(), 1);
    }

    private static void whereByFour() {
        Check.sentence("5: Its place, if the latest call that may be refused was by 4");
        UmbrellaFlight x = Check.told(ONE, 1);
        Check.due("behind a good one", x.where(), -1);
        Check.refused(x, "a bad one", Check.tell(x, BAD), -1, 4);
        Check.due("where", x.where(), 12);
        feedBlanks(x);
        x.fault();
        Check.led(x, 0);
        Check.led(x, -1);
        x.size(0);
        x.size(99);
        x.trouble();
        Check.due("where behind calls that may not be refused", x.where(), 12);
        Check.due("and again", x.where(), 12);
        Check.refused(x, "a fault at the first byte", x.flight(0), -1, 4);
        Check.due("0 is a place, too", x.where(), 0);
    }

    private static void whereElse() {
        Check.sentence("5: NONE else");
        Check.due("of a new object", new UmbrellaFlight().where(), -1);
        for (int which = 6; which < 48; which++) {
            for (int n = -1; n <= 0; n++) {
                UmbrellaFlight x = Check.told(ONE + ";flies a 0 z;wind 1 good 1 bad 1", 1);
                Check.refused(x, "a bad one", Check.tell(x, BAD), -1, 4);
                Calls.ask(x, which, n, n, n);
                Check.due("where behind a call of promise " + which, x.where(), -1);
            }
        }
        UmbrellaFlight x = new UmbrellaFlight();
        Check.refused(x, "a bad one", Check.tell(x, BAD), -1, 4);
        Check.refused(x, "2", x.flight(-1), -1, 2);
        Check.due("behind 2", x.where(), -1);
    }

    public static void main(String[] args) {
        noFlight();
        noFlightFirst();
        howManyBytes();
        noMoreBytes();
        highestFirst();
        firstBytes();
        tapeIsEmptyThen();
        fromNowOn();
        nothingOfAnotherFlight();
        howManyUmbrellas();
        wrongNumbers();
        flightStays();
        noFlightStays();
        faultWithoutOne();
        faultOfTheLatest();
        whereByFour();
        whereElse();
        Check.end();
    }
}
