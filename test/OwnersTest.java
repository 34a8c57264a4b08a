/** Promises 31 to 35: who is wet, how few to keep, and by how few exchanges all are at home. */
public final class OwnersTest {
    private static final String OWNERS = ";owner p h;owner q h;owner r k;out p 0 to 2;out q 1 to 1;out r 1 to 3;"
        + "rain 1;rain 2";

    private static void wet() {
        UmbrellaFlight x = Check.told(Check.MAP + OWNERS, 5);
        Check.fine(x, "wet on a dry day", x.wet(0), 0);
        Check.fine(x, "wet 1", x.wet(1), 3);
        Check.fine(x, "wet 2", x.wet(2), 1);
        Check.fine(x, "wet 3", x.wet(3), 0);
        Check.refused(x, "wet 6", x.wet(6), -1, 2);
        Check.refused(x, "wet -1", x.wet(-1), -1, 2);
        Check.fine(x, "wetDays p", x.wetDays(0), 2);
        Check.fine(x, "wetDays q", x.wetDays(1), 1);
        Check.fine(x, "wetDays r, whom the miser's keeps dry", x.wetDays(2), 0);
        Check.refused(x, "wetDays 3", x.wetDays(3), -1, 1);
        Check.refused(x, "wetDays -1", x.wetDays(-1), -1, 1);
        Check.fine(x, "keep e", x.keep(4, true));
        Check.fine(x, "p gets it", x.wet(1), 2);
        Check.fine(x, "on the other day, too", x.wet(2), 0);
        Check.fine(x, "keep a", x.keep(0, true));
        Check.fine(x, "both are dry", x.wet(1), 0);
        Check.fine(x, "let go", x.keep(4, false));
        Check.fine(x, "one by numbers of owners", x.wet(1), 2);
        Check.fine(x, "keep a miser", x.keep(3, true));
        Check.fine(x, "it counts once", x.umbrella(3, 5), 1);
        x = Check.told(Check.MAP + ";owner p k;owner q k;owner r k;out r 1 to 1;out r 1 to 2;out q 2 to 2;rain 2;rain 1", 5);
        Check.fine(x, "one miser for r", x.wet(1), 0);
        Check.fine(x, "one miser for q", x.wet(2), 4);
        Check.fine(x, "keep the miser", x.keep(3, true));
        Check.fine(x, "it is but one", x.wet(2), 4);
        Check.fine(x, "no umbrella of another hall", x.keep(0, true));
        Check.fine(x, "is of use", x.wet(2), 4);
    }

    private static void pins() {
        UmbrellaFlight x = Check.told(Check.MAP + OWNERS, 5);
        Check.fine(x, "pins h", x.pins(0), 2);
        Check.fine(x, "pins k", x.pins(1), 1);
        Check.refused(x, "pins of a strait", x.pins(2), -1, 1);
        Check.refused(x, "pins of a south", x.pins(3), -1, 1);
        Check.refused(x, "pins 4", x.pins(4), -1, 1);
        Check.refused(x, "pins -1", x.pins(-1), -1, 1);
        Check.fine(x, "spare h", x.spare(0), 1);
        Check.fine(x, "spare k", x.spare(1), 1);
        Check.refused(x, "spare of a strait", x.spare(2), -100, 1);
        Check.refused(x, "spare 4", x.spare(4), -100, 1);
        Check.refused(x, "spare -1", x.spare(-1), -100, 1);
        Check.fine(x, "keep", x.keep(0, true));
        Check.fine(x, "spare not by NOW", x.spare(0), 1);
        Check.fine(x, "pins not by NOW", x.pins(0), 2);
        x = Check.told(Check.ONE + ";stop k hall;owner p k;owner q k;owner r h;out p 0 to 4;out q 3 to 3;out r 1 to 1;rain 3", 1);
        Check.fine(x, "less than none", x.spare(2), -2);
        Check.fine(x, "out on dry days only", x.pins(0), 0);
        Check.fine(x, "spare", x.spare(0), 1);
    }

    private static UmbrellaFlight backs(String homes, String backs, int due) {
        StringBuilder text = new StringBuilder("flight days 2 grows 0 room 9;stop h hall;stop i hall;stop j hall;stop k hall");
        for (int u = 0; u < homes.length(); u++) {
            text.append(";umbrella u").append((char) ('a' + u)).append(" black strong 0 home ").append(homes.charAt(u));
        }
        for (int u = 0; u < backs.length(); u++) {
            if (backs.charAt(u) != '.') {
                text.append(";back u").append((char) ('a' + u)).append(' ').append(backs.charAt(u));
            }
        }
        UmbrellaFlight x = Check.told(text.toString(), homes.length());
        Check.fine(x, "handings of " + homes + " back in " + backs, x.handings(), due);
        return x;
    }

    private static void handings() {
        UmbrellaFlight x = backs("hij", "...", 0);
        Check.due("none is back", x.size(7), 0);
        x = backs("hij", "hi.", 0);
        Check.due("two are back", x.size(7), 2);
        backs("hij", "h.i", -2);
        backs("hij", "ih.", 1);
        backs("hij", "ijh", 2);
        backs("hhi", "hih", 1);
        backs("hijk", "ihkj", 2);
        backs("hijk", "ijkh", 3);
        backs("hhii", "iihh", 2);
        backs("hhijjk", "ijhhkj", 3);
        backs("hhhijk", "ijkhhh", 3);
        backs("hiijkk", "ijkihk", 3);
        backs("hi", "hh", -2);
    }

    public static void main(String[] args) {
        wet();
        pins();
        handings();
        Check.end();
    }
}
