/** Terms III, and promises 31 to 35: each sentence on owners and exchanges that names an edge, by a test of its own. */
public final class OwnersEdgesTest {
    private static final String MAP = "flight days 5 grows 0 room 9;stop h hall;stop k hall;stop s strait;stop z south;"
        + "stop e hall;way h z wind 1 loss 0;way k z wind 1 loss 0;umbrella a black strong 5 home h;"
        + "umbrella b miser strong 5 home h;umbrella c lady strong 5 home k;umbrella d golf strong 5 home h;flies a 4 z";
    private static final int A = 0;
    private static final int B = 1;
    private static final int C = 2;
    private static final int D = 3;

    private static UmbrellaFlight owned(String owners) {
        return Check.told(MAP + ";" + owners, 4);
    }

    private static void wet(UmbrellaFlight x, int... due) {
        for (int day = 0; day < due.length; day++) {
            Check.fine(x, "wet(" + day + ")", x.wet(day), due[day]);
        }
    }

    // ---- who is wet

    private static void keptInAHall() {
        Check.sentence("III: KEPT in a hall: those KEPT at home there, and its misers");
        UmbrellaFlight x = owned("owner o h;owner p h;owner q h;owner r h;owner v k;out o 0 to 4;out p 0 to 4;out q 0 to 4;"
            + "out r 0 to 4;out v 0 to 4;rain 1");
        Check.fine(x, "but the miser, at first", x.wet(1), 14 + 16);
        Check.fine(x, "keep c", x.keep(C, true));
        Check.fine(x, "in its own hall", x.wet(1), 14);
        Check.fine(x, "keep a", x.keep(A, true));
        Check.fine(x, "two", x.wet(1), 12);
        Check.fine(x, "keep the miser", x.keep(B, true));
        Check.fine(x, "it is but one", x.wet(1), 12);
        Check.fine(x, "keep d", x.keep(D, true));
        Check.fine(x, "three", x.wet(1), 8);
        Check.fine(x, "let the miser go", x.keep(B, false));
        Check.fine(x, "it stays all the same", x.wet(1), 8);
        Check.fine(x, "let c go", x.keep(C, false));
        Check.fine(x, "one of another hall", x.wet(1), 24);
    }

    private static void notKept() {
        Check.sentence("III: KEPT in a hall: not one that is at home, but not KEPT");
        UmbrellaFlight x = Check.told(Check.ONE + ";owner o h;out o 0 to 4;rain 0;rain 4", 1);
        wet(x, 1, 0, 0, 0, 1);
        Check.fine(x, "keep", x.keep(0, true));
        wet(x, 0, 0, 0, 0, 0);
        Check.fine(x, "undo", x.undo());
        wet(x, 1, 0, 0, 0, 1);
    }

    private static void onADayOfRain() {
        Check.sentence("III: On a day of rain its owners who are out");
        UmbrellaFlight x = owned("owner o e;out o 1 to 3;rain 0;rain 1;rain 3;rain 4");
        wet(x, 0, 1, 0, 1, 0);
        x = owned("owner o e;out o 0 to 0;out o 4 to 4;rain 0;rain 1;rain 3;rain 4");
        wet(x, 1, 0, 0, 0, 1);
        x = owned("owner o e;owner p e;out p 1 to 2;out p 2 to 3;out p 1 to 1;rain 1;rain 2;rain 3");
        wet(x, 0, 2, 2, 2, 0);
        x = owned("owner o e;out o 0 to 4");
        wet(x, 0, 0, 0, 0, 0);
    }

    private static void byNumbers() {
        Check.sentence("III: by numbers, get one each, as long as there are any: the others are WET");
        UmbrellaFlight x = owned("owner o k;owner p h;owner q h;owner r h;out r 0 to 4;out q 1 to 4;out p 2 to 4;rain 0;rain 1;"
            + "rain 2;rain 3");
        wet(x, 0, 8, 12, 12, 0);
        Check.fine(x, "keep", x.keep(D, true));
        wet(x, 0, 0, 8, 8, 0);
        Check.fine(x, "keep", x.keep(A, true));
        wet(x, 0, 0, 0, 0, 0);
        x = Check.told(Check.ONE + ";owner o h;owner p h;owner q h;owner r h;owner v h;owner w h;out o 0 to 0;out p 0 to 0;"
            + "out q 0 to 0;out r 0 to 0;out v 0 to 0;out w 0 to 0;rain 0", 1);
        Check.fine(x, "all six", x.wet(0), 63);
        Check.fine(x, "keep", x.keep(0, true));
        Check.fine(x, "all but the first", x.wet(0), 62);
    }

    private static void wetRefused() {
        Check.sentence("31: NONE: 1 (no FLIGHT); 2.");
        UmbrellaFlight x = owned("owner o e;out o 0 to 4;rain 0;rain 4");
        Check.fine(x, "wet(0)", x.wet(0), 1);
        Check.fine(x, "wet(4)", x.wet(4), 1);
        for (int day : new int[] {-1, 5, 20, 32, Integer.MIN_VALUE, Integer.MAX_VALUE}) {
            Check.refused(x, "wet(" + day + ")", x.wet(day), -1, 2);
        }
        UmbrellaFlight none = new UmbrellaFlight();
        Check.refused(none, "without a flight", none.wet(-1), -1, 1);
    }

    private static void wetDays() {
        Check.sentence("32: On how many days an owner is WET");
        UmbrellaFlight x = owned("owner o h;owner p h;owner q e;owner r h;out o 0 to 1;out p 0 to 4;out q 0 to 4;rain 0;rain 1;"
            + "rain 2;rain 3;rain 4");
        int[] due = {0, 2, 5, 0};
        for (int o = 0; o < 4; o++) {
            Check.fine(x, "wetDays(" + o + ")", x.wetDays(o), due[o]);
        }
        Check.fine(x, "keep", x.keep(A, true));
        Check.fine(x, "wetDays(1), with one more kept", x.wetDays(1), 0);
    }

    private static void wetDaysRefused() {
        Check.sentence("32: NONE: 1.");
        UmbrellaFlight x = owned("owner o h;owner p h");
        Check.fine(x, "wetDays(1)", x.wetDays(1), 0);
        for (int o : new int[] {-1, 2, 5, 6, Integer.MIN_VALUE, Integer.MAX_VALUE}) {
            Check.refused(x, "wetDays(" + o + ")", x.wetDays(o), -1, 1);
        }
        UmbrellaFlight none = Check.told(MAP, 4);
        Check.refused(none, "wetDays(0) without owners", none.wetDays(0), -1, 1);
    }

    // ---- how few to keep

    private static void pins() {
        Check.sentence("III: PINS of a hall: the most of its owners who are out on a day of rain");
        UmbrellaFlight x = owned("owner o h;owner p h;owner q h;owner r k;out o 0 to 0;out p 0 to 4;out q 4 to 4;out r 2 to 2;"
            + "out r 2 to 3;rain 0;rain 2");
        Check.fine(x, "on the first day", x.pins(0), 2);
        Check.fine(x, "one, told twice", x.pins(1), 1);
        Check.fine(x, "without owners", x.pins(4), 0);
        x = owned("owner o h;owner p h;owner q h;owner r k;out o 0 to 0;out p 0 to 4;out q 4 to 4;out r 2 to 2;rain 4;rain 1");
        Check.fine(x, "on the last day", x.pins(0), 2);
        Check.fine(x, "out on dry days", x.pins(1), 0);
        x = owned("owner o h;out o 0 to 4");
        Check.fine(x, "no rain", x.pins(0), 0);
        x = owned("owner o h;rain 1");
        Check.fine(x, "none is out", x.pins(0), 0);
    }

    private static void pinsOfAll() {
        Check.sentence("33: PINS, not by those that are kept");
        UmbrellaFlight x = Check.told(Check.ONE + ";owner o h;owner p h;owner q h;owner r h;owner v h;owner w h;out o 0 to 4;"
            + "out p 0 to 4;out q 0 to 4;out r 0 to 4;out v 0 to 4;out w 4 to 4;rain 4", 1);
        Check.fine(x, "all six", x.pins(0), 6);
        Check.fine(x, "spare", x.spare(0), -5);
        Check.fine(x, "keep", x.keep(0, true));
        Check.fine(x, "all six", x.pins(0), 6);
        Check.fine(x, "spare", x.spare(0), -5);
    }

    private static void pinsRefused() {
        Check.sentence("33: NONE: 1 (no such hall).");
        UmbrellaFlight x = owned("owner o h;out o 0 to 0;rain 0");
        for (int hall : new int[] {-1, 2, 3, 5, 7, 8, Integer.MIN_VALUE, Integer.MAX_VALUE}) {
            Check.refused(x, "pins(" + hall + ")", x.pins(hall), -1, 1);
        }
        Check.fine(x, "pins(4)", x.pins(4), 0);
    }

    private static void spare() {
        Check.sentence("III: SPARE: how many umbrellas at home there (not by NOW) there are more than PINS");
        UmbrellaFlight x = owned("owner o h;out o 0 to 4;rain 4;owner p e;out p 4 to 4");
        for (int i = 0; i < 2; i++) {
            Check.fine(x, "three, and one pin", x.spare(0), 2);
            Check.fine(x, "one, and no pin", x.spare(1), 1);
            Check.fine(x, "none, and one pin", x.spare(4), -1);
            Check.fine(x, "keep", x.keep(i, true));
            Check.fine(x, "send", x.send(2, 0, i));
        }
    }

    private static void spareBelow() {
        Check.sentence("34: SPARE (less than 0 can be)");
        String owners = ";owner o h;owner p h;owner q h;owner r h;owner v h;owner w h;out o 0 to 4;out p 0 to 4;out q 0 to 4;"
            + "out r 0 to 4;out v 0 to 4;out w 0 to 4;rain 4";
        UmbrellaFlight x = Check.told(Check.HEAD + ";stop k hall;umbrella a black strong 1 home k" + owners, 1);
        Check.fine(x, "the least that can be", x.spare(0), -6);
        Check.fine(x, "another hall", x.spare(2), 1);
    }

    private static void spareRefused() {
        Check.sentence("34: -100: 1.");
        UmbrellaFlight x = owned("owner o h;out o 0 to 0;rain 0");
        for (int hall : new int[] {-1, 2, 3, 5, 7, 8, Integer.MIN_VALUE, Integer.MAX_VALUE}) {
            Check.refused(x, "spare(" + hall + ")", x.spare(hall), -100, 1);
        }
        Check.fine(x, "spare(4)", x.spare(4), 0);
        UmbrellaFlight none = new UmbrellaFlight();
        Check.refused(none, "without a flight", none.spare(0), -100, 1);
    }

    // ---- exchanges

    /** By letters: the halls of their homes, and those to which they came back (. for none). */
    private static void handings(String homes, String backs, int due) {
        StringBuilder text = new StringBuilder("flight days 2 grows 0 room 9");
        for (char hall = 'h'; hall <= 'o'; hall++) {
            text.append(";stop ").append(hall).append(" hall");
        }
        for (int u = 0; u < homes.length(); u++) {
            text.append(";umbrella u").append((char) ('a' + u)).append(" black strong 0 home ").append(homes.charAt(u));
        }
        for (int u = homes.length() - 1; u >= 0; u--) {
            if (backs.charAt(u) != '.') {
                text.append(";back u").append((char) ('a' + u)).append(' ').append(backs.charAt(u));
            }
        }
        UmbrellaFlight x = Check.told(text.toString(), homes.length());
        Check.fine(x, "handings of " + homes + " back in " + backs, x.handings(), due);
    }

    private static void noHandings() {
        Check.sentence("III: HANDINGS: of those that are back: none need be");
        handings("h", ".", 0);
        handings("h", "h", 0);
        handings("hijklm", "......", 0);
        handings("hijklm", "hijklm", 0);
        handings("hhhhhh", "hhhhhh", 0);
        handings("hijklm", "h.j..m", 0);
    }

    private static void fewestHandings() {
        Check.sentence("III: HANDINGS: the fewest exchanges of two, by which each comes to the hall of its home");
        handings("hi", "ih", 1);
        handings("hij", "ih.", 1);
        handings("jhi", ".ih", 1);
        handings("hijk", "ihkj", 2);
        handings("hijk", "ijkh", 3);
        handings("hijklm", "ijklmh", 5);
        handings("jklmno", "klmnoj", 5);
        handings("hijklm", "ijhlmk", 4);
        handings("hijklm", "ihkjml", 3);
        handings("hhhiii", "iiihhh", 3);
        handings("hhijjk", "jihkhj", 3);
        handings("hiihjj", "ijjhih", 3);
        handings("hijhij", "ijhhij", 2);
    }

    private static void handingsThatCantBe() {
        Check.sentence("III: HANDINGS: -2 if there can't be");
        handings("h", "i", -2);
        handings("hi", ".h", -2);
        handings("hi", "hh", -2);
        handings("hhi", "hii", -2);
        handings("hij", "ij.", -2);
        handings("hijklm", "hijkll", -2);
        handings("hhhhj", "iiiii", -2);
        handings("hiihj", "jhhji", -2);
        handings("hhhhhh", "oooooo", -2);
        handings("oooooo", "nnnnnn", -2);
    }

    private static void handingsRefused() {
        Check.sentence("35: NONE: 1 (no FLIGHT).");
        UmbrellaFlight none = new UmbrellaFlight();
        Check.refused(none, "without a flight", none.handings(), -1, 1);
        UmbrellaFlight x = Check.told(Check.ONE, 1);
        Check.fine(x, "none is back", x.handings(), 0);
    }

    public static void main(String[] args) {
        keptInAHall();
        notKept();
        onADayOfRain();
        byNumbers();
        wetRefused();
        wetDays();
        wetDaysRefused();
        pins();
        pinsOfAll();
        pinsRefused();
        spare();
        spareBelow();
        spareRefused();
        noHandings();
        fewestHandings();
        handingsThatCantBe();
        handingsRefused();
        Check.end();
    }
}
