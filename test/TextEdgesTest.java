import java.util.Arrays;

/** Terms I, the text of a flight: each sentence that names an edge, by a test of its own. */
public final class TextEdgesTest {
    private static final String FLIGHT = "flight days 5 grows 1 room 9";
    private static final String MAP = FLIGHT + ";stop h hall;stop s strait;stop z south;way h s wind 1 loss 1;"
        + "way s h wind 1 loss 1;way s z wind 1 loss 1";
    private static final String ONE = MAP + ";umbrella a black strong 1 home h";
    private static final String OWNED = ONE + ";owner o h";
    private static final String[] LINE_WORDS = {"flight", "stop", "way", "umbrella", "flies", "ring", "back", "owner", "out",
        "rain", "wind"};

    // ---- the tape and its tokens

    private static void tapeBytes() {
        Check.sentence("I: THE TAPE has 1,100 bytes");
        String text = ONE + " ".repeat(1100 - ONE.length() - 7) + ";rain 4";
        Check.due("the line at its end is read", Check.good(text).size(10), 1);
        Check.faulty(text.substring(0, 1099) + "5", 4, 1099);
        Check.faulty(text.substring(0, 1099) + "$", 1, 1099);
    }

    private static void blanks() {
        Check.sentence("I: blanks, 32, part TOKENS and mean nothing else");
        Check.good("   flight   days 5   grows 1 room 9 ; stop h hall ; umbrella a black strong 1 home h   ");
        UmbrellaFlight x = Check.good("flight days5grows07room9;stop h hall;umbrella a black strong12home h");
        Check.due("grows, without a blank", x.size(1), 7);
        Check.due("strong, without a blank", x.umbrella(0, 1), 12);
        Check.fault(1, "^fli ght days 5");
        Check.fault(1, "flight ^da ys 5");
        Check.fault(1, FLIGHT + " ^9");
    }

    private static void noTokens() {
        Check.sentence("I: 1 FORM: the first byte that begins no TOKEN");
        for (int c : new int[] {0, 9, 10, 13, 31, 33, 43, 45, 46, 47, 58, 60, 64, 65, 90, 91, 95, 96, 123, 127, 128, 160,
            224, 255}) {
            Check.fault(1, ONE + "^" + (char) c);
            Check.fault(1, ONE + ";stop k^" + (char) c);
            Check.fault(1, ONE + ";rain 1^" + (char) c);
            Check.fault(1, ONE + ";stop ^" + (char) c + " hall");
            Check.fault(1, ONE + ";rain ^" + (char) c + "1");
            Check.fault(1, ONE + ";ring ^" + (char) c + " h 1");
            Check.fault(1, ONE + ";flies a 0 s,^" + (char) c);
            Check.fault(1, "flight days ^" + (char) c);
            Check.fault(1, "^" + (char) c + ONE);
        }
    }

    private static void words() {
        Check.sentence("I: WORDS of 1 to 8 small letters that stand together");
        Check.good(ONE + ";stop abcdefgh strait;stop abcdefgi strait;stop bbcdefgh strait;stop zzzzzzzz south;"
            + "stop abcdefg strait;way abcdefgh abcdefgi wind 1 loss 1;way bbcdefgh abcdefgh wind 1 loss 1");
        Check.fault(3, ONE + ";stop zzzzzzzz south;stop ^zzzzzzzz south");
        Check.fault(1, ONE + ";stop ^abcdefghi strait");
        Check.fault(1, ONE + ";stop ^abcdefghijklmnop strait");
        Check.fault(1, ONE + ";^umbrellas");
        Check.fault(1, ONE + ";umbrella ^abcdefghi black strong 1 home h");
        Check.fault(1, ONE + ";ring a ^hhhhhhhhh 1");
        Check.fault(1, ONE + ";stop k ^" + "p".repeat(40) + "hall");
        Check.fault(1, "^" + "p".repeat(60) + "flight");
    }

    private static void wholes() {
        Check.sentence("I: WHOLES of 1 to 3 digits that do");
        for (String days : new String[] {"5", "05", "005"}) {
            UmbrellaFlight x = Check.good(FLIGHT.replace("5", days) + ";stop h hall;umbrella a golf strong 000 home h");
            Check.due("days " + days, x.size(0), 5);
        }
        Check.due("nines", Check.good(ONE.replace("room 9", "room 999")).size(2), 999);
        Check.fault(1, "flight days ^0005");
        Check.fault(1, "flight days ^4294967301");
        Check.fault(1, "flight days ^00000000000000000005");
        Check.fault(1, "flight days 5 grows 1 room ^1000");
        Check.fault(1, ONE + ";rain 1;rain ^0001");
    }

    private static void signs() {
        Check.sentence("I: single ones of ; ,");
        Check.good(ONE + ";flies a 0 s,z;rain 1");
        Check.good(ONE + " ; flies a 0 s , z ; rain 1");
        Check.fault(1, ONE + ";^;");
        Check.fault(1, ONE + ";^,");
        Check.fault(1, ONE + "^,stop k hall");
        Check.fault(1, ONE + ";flies a 0 ^,s");
        Check.fault(1, ONE + ";flies a 0 s,^,z");
        Check.fault(1, ONE + ";flies a 0 s,^;");
        Check.fault(1, ONE + ";rain^,1");
        Check.fault(1, ONE + ";rain^;1");
    }

    private static void lines() {
        Check.sentence("I: LINE {; LINE}");
        Check.good(ONE + ";rain 1;rain 2");
        Check.fault(1, "^;" + ONE);
        Check.fault(1, ONE + ";^;rain 1");
        Check.fault(1, ONE + " ^stop k hall");
        Check.fault(1, ONE + " ^5");
        for (String noLine : new String[] {"5", "strait", "a", "h", "days", "flights", "to", ","}) {
            Check.fault(1, ONE + ";^" + noLine);
            Check.fault(1, "^" + noLine);
        }
    }

    private static void theEnd() {
        Check.sentence("I: 1 FORM: TOKEN with which no FLIGHT goes on (the end: its place)");
        String[] parts = "flight |days |5 |grows |1 |room ".split("\\|");
        for (int n = 0; n <= parts.length; n++) {
            String text = String.join("", Arrays.copyOf(parts, n));
            Check.fault(1, text + "^");
            Check.fault(1, text + "  ^");
        }
        for (String part : new String[] {"", "stop", "stop k", "way", "way z", "way z h", "way z h wind", "way z h wind 1",
            "way z h wind 1 loss", "umbrella", "umbrella b", "umbrella b golf", "umbrella b golf strong",
            "umbrella b golf strong 1", "umbrella b golf strong 1 home", "flies", "flies a", "flies a 1", "flies a 1 s,",
            "ring", "ring a", "ring a h", "back", "back a", "owner", "owner p", "out", "out o", "out o 1", "out o 1 to", "rain",
            "wind", "wind 1", "wind 1 good", "wind 1 good 1", "wind 1 good 1 bad"}) {
            Check.fault(1, OWNED + ";" + part + "^");
            Check.fault(1, OWNED + ";" + part + "  ^");
            Check.fault(1, OWNED + ";" + part + " ^;");
            if (!part.endsWith(",")) {
                Check.fault(1, OWNED + ";" + part + "^,");
            }
        }
    }

    private static void wordsOfLines() {
        Check.sentence("I: LINE, one of (each with its own words, wholes and names)");
        for (String marked : new String[] {"stop k ^inn", "stop k ^halls", "stop k ^5", "stop k ^black", "way z h ^loss 1",
            "way z h wind ^wind", "way z h wind 1 ^1", "way z h wind 1 loss ^z", "umbrella b ^odd", "umbrella b ^hall",
            "umbrella b ^5", "umbrella b golf ^home", "umbrella b golf strong ^home", "umbrella b golf strong 1 ^h",
            "umbrella b golf strong 1 home ^1", "flies a ^s", "flies a 1 ^1", "flies a 1 s ^z", "ring a ^1", "ring a h ^h",
            "ring ^1 h", "back ^5", "back a ^5", "owner ^5", "owner p ^5", "out ^5", "out o ^o", "out o 1 ^2", "out o 1 ^and",
            "out o 1 to ^o", "rain ^a", "wind ^good", "wind 1 ^bad", "wind 1 good ^bad", "wind 1 good 1 ^1",
            "wind 1 good 1 bad ^bad", "stop k hall ^hall", "way z h wind 1 loss 1 ^1", "rain 1 ^2", "back a h ^1"}) {
            Check.fault(1, OWNED + ";" + marked);
        }
        Check.fault(1, "flight ^grows 1");
        Check.fault(1, "flight days 5 ^room 1");
        Check.fault(1, "flight days 5 grows 1 ^days");
    }

    // ---- bounds of wholes

    /** A line's whole in the place of #; where a call tells it, that call and its numbers. */
    private static void bounds(String text, int least, int most, int... call) {
        for (int n : new int[] {least, least + 1, most - 1, most}) {
            UmbrellaFlight x = Check.good(text.replace("#", "" + n));
            if (call.length > 0) {
                Check.due(n + " in " + text, Calls.ask(x, call[0], call[1], call[2], call[3]), n);
            }
        }
        String marked = text.replace("#", "^#");
        for (int n : new int[] {0, least - 1, most + 1, most + 2, 999}) {
            if (n >= 0 && n < least || n > most && n <= 999) {
                Check.fault(4, marked.replace("#", "" + n));
            }
        }
        Check.fault(1, marked.replace("#", "1000"));
    }

    private static void boundsOfTheFlight() {
        String rest = ";stop h hall;umbrella a black strong 1 home h";
        Check.sentence("I: flight days WHOLE (2 .. 20)");
        bounds("flight days # grows 1 room 9" + rest, 2, 20, 49, 0, 0, 0);
        Check.sentence("I: grows WHOLE (0 .. 99 in a hundred)");
        bounds("flight days 5 grows # room 9" + rest, 0, 99, 49, 1, 0, 0);
        Check.sentence("I: room WHOLE (1 .. 999)");
        bounds("flight days 5 grows 1 room #" + rest, 1, 999, 49, 2, 0, 0);
    }

    private static void boundsOfWays() {
        Check.sentence("I: way .. wind WHOLE (0 .. 9)");
        bounds(ONE + ";way h z wind # loss 1", 0, 9, 7, 0, 2, 0);
        Check.sentence("I: way .. loss WHOLE (0 .. 50 in a hundred)");
        bounds(ONE + ";way h z wind 0 loss #", 0, 50, 7, 0, 2, 1);
    }

    private static void boundsOfUmbrellas() {
        Check.sentence("I: umbrella .. strong WHOLE (0 .. 30)");
        bounds(ONE + ";umbrella b golf strong # home h", 0, 30, 8, 1, 1, 0);
        Check.sentence("I: flies UMBRELLA WHOLE (the day on which it sets out)");
        bounds(ONE + ";flies a # s", 0, 4, 8, 0, 3, 0);
    }

    private static void boundsOfRings() {
        Check.sentence("I: ring UMBRELLA STOP WHOLE (the day behind which it was seen there)");
        bounds(ONE + ";ring a h #", 0, 4);
        Check.due("right on 3 and on 4, not on 3", Check.good(ONE + ";flies a 4 s;ring a h 3;ring a s 4;ring a s 3").judge(), 2);
    }

    private static void boundsOfOuts() {
        Check.sentence("I: out OWNER WHOLE to WHOLE (days, the second not below the first)");
        bounds(OWNED + ";out o # to 4", 0, 4);
        bounds(OWNED + ";out o 0 to #", 0, 4);
        bounds(OWNED + ";out o 3 to #", 3, 4);
        Check.good(OWNED + ";out o 0 to 0;out o 4 to 4");
        Check.fault(4, OWNED + ";out o 4 to ^3");
        Check.fault(4, OWNED + ";out o ^5 to 5");
    }

    private static void boundsOfRains() {
        Check.sentence("I: rain WHOLE (a day)");
        bounds(ONE + ";rain #", 0, 4);
    }

    private static void boundsOfWinds() {
        Check.sentence("I: wind WHOLE (0 .. 100 in a hundred)");
        bounds(ONE + ";wind # good 1 bad 0", 0, 100);
        Check.due("100 in a hundred", Check.good(ONE + ";wind 100 good 1 bad 0").mean(false), 1);
        Check.due("0 in a hundred", Check.good(ONE + ";wind 0 good 1 bad 0").mean(false), 0);
        Check.sentence("I: wind .. good WHOLE (0 .. 99)");
        bounds(ONE + ";wind 100 good # bad 0", 0, 99, 36, 0, 0, 0);
        Check.sentence("I: wind .. bad WHOLE (0 .. 99)");
        bounds(ONE + ";wind 0 good 0 bad #", 0, 99, 36, 0, 0, 0);
    }

    // ---- how many lines there may be

    /** Lines up to their room (in each % is a letter of its own, # a number), and one more. */
    private static void room(String ahead, String line, int more, int size) {
        StringBuilder text = new StringBuilder(ahead);
        for (int i = 0; i < more; i++) {
            text.append(';').append(line.replace('%', (char) ('b' + i)).replace("#", "" + i));
        }
        Check.due("all of " + text, Check.good(text.toString()).size(size), Check.good(ahead).size(size) + more);
        String word = line.substring(0, line.indexOf(' '));
        Check.fault(5, text + ";^" + line.replace('%', 'y').replace("#", "19"));
        Check.fault(5, text + " ; ^" + line.replace('%', 'b').replace("#", "0"));
        Check.fault(5, text + ";^" + word);
        Check.fault(5, text + ";^" + word + " $");
    }

    private static void roomForStops() {
        Check.sentence("I: stop .. up to 8; 5 MANY: a LINE more of its sort, at its first WORD");
        room(ONE, "stop s% strait", 5, 3);
        room(FLIGHT + ";stop h hall;umbrella a black strong 1 home h", "stop s% south", 7, 3);
    }

    private static void roomForWays() {
        Check.sentence("I: way .. up to 14; 5 MANY");
        StringBuilder text = new StringBuilder(FLIGHT + ";stop h hall");
        for (char c = 'b'; c < 'i'; c++) {
            text.append(";stop s").append(c).append(" strait");
        }
        text.append(";umbrella a black strong 1 home h");
        room(text + ways(text, "h s%"), "way s% h wind 1 loss 1", 7, 4);
        room(text + ways(text, "s% h"), "way h s% wind 1 loss 1", 7, 4);
    }

    private static String ways(CharSequence ahead, String ends) {
        StringBuilder ways = new StringBuilder();
        for (char c = 'b'; c < 'i'; c++) {
            ways.append(";way ").append(ends.replace('%', c)).append(" wind 0 loss 0");
        }
        return ways.toString();
    }

    private static void roomForUmbrellas() {
        Check.sentence("I: umbrella .. up to 6; 5 MANY");
        room(ONE, "umbrella u% miser strong 1 home h", 5, 5);
    }

    private static void roomForRings() {
        Check.sentence("I: ring .. up to 8; 5 MANY");
        room(ONE, "ring a h 1", 8, 6);
    }

    private static void roomForOwners() {
        Check.sentence("I: owner .. up to 6; 5 MANY");
        room(ONE, "owner o% h", 6, 8);
    }

    private static void roomForOuts() {
        Check.sentence("I: out .. up to 10; 5 MANY");
        room(OWNED, "out o 1 to 2", 10, 9);
    }

    private static void roomForRains() {
        Check.sentence("I: rain .. up to 10; 5 MANY");
        room(ONE.replace("days 5", "days 20"), "rain #", 10, 10);
    }

    private static void roomForWinds() {
        Check.sentence("I: wind .. up to 6; 5 MANY");
        room(ONE, "wind 1 good 1 bad 1", 6, 11);
    }

    private static void roomForStopsFlownTo() {
        Check.sentence("I: flies .. 1 to 5 of these; a sixth STOP it flies to: at it");
        Check.fault(1, ONE + ";flies a 0^");
        Check.due("one", Check.good(ONE + ";flies a 0 s").umbrella(0, 4), 1);
        String five = ONE + ";flies a 0 s,h,s,h,s";
        Check.due("five", Check.good(five).umbrella(0, 4), 5);
        Check.fault(5, five + ",^h");
        Check.fault(5, five + " , ^z,h");
        Check.fault(5, five + ",^h;rain 9");
    }

    private static void oncePerUmbrella() {
        Check.sentence("I: back UMBRELLA STOP, once for each: no other bound");
        StringBuilder text = new StringBuilder(ONE);
        for (char c = 'b'; c < 'g'; c++) {
            text.append(";umbrella ").append(c).append(" lady strong 1 home h");
        }
        for (char c = 'a'; c < 'g'; c++) {
            text.append(";back ").append(c).append(" h;flies ").append(c).append(" 0 s");
        }
        Check.due("all six", Check.good(text.toString()).size(7), 6);
    }

    // ---- names

    private static void wordsThatAreNoNames() {
        Check.sentence("I: NAMES are WORDS but flight, stop, way, umbrella, flies, ring, back, owner, out, rain, wind");
        for (String word : LINE_WORDS) {
            for (String marked : new String[] {"stop ^# hall", "umbrella ^# golf strong 1 home h", "owner ^# h", "way ^# z",
                "way z ^#", "umbrella b golf strong 1 home ^#", "flies ^# 0 s", "flies a 0 ^#", "flies a 0 s,^#", "ring ^# h 1",
                "ring a ^# 1", "back ^# h", "back a ^#", "owner p ^#", "out ^# 0 to 1"}) {
                Check.fault(1, OWNED + ";" + marked.replace("#", word));
            }
        }
        Check.good(FLIGHT + ";stop hall hall;stop strait strait;stop south south;stop days hall;stop grows south;"
            + "stop room strait;stop loss hall;stop to south;way hall strait wind 1 loss 1;"
            + "umbrella black black strong 1 home hall;"
            + "umbrella golf golf strong 1 home days;umbrella lady lady strong 1 home hall;"
            + "umbrella folding folding strong 1 home loss;"
            + "umbrella miser miser strong 1 home hall;umbrella strong black strong 1 home hall;owner home hall;owner good days;"
            + "owner bad loss;owner flights hall;owner sto hall;owner winds hall;flies strong 1 strait;out home 1 to 2");
    }

    private static void namesToldAgain() {
        Check.sentence("I: 3 a NAME told again; at it");
        for (String name : new String[] {"h", "s", "z", "a", "o"}) {
            Check.fault(3, OWNED + ";stop ^" + name + " hall");
            Check.fault(3, OWNED + ";stop ^" + name);
            Check.fault(3, OWNED + ";umbrella ^" + name + " golf strong 1 home h");
            Check.fault(3, OWNED + ";owner ^" + name + " h");
        }
    }

    /** In each place of a name: one that isn't told, ones of other sorts, and good ones. */
    private static void namesThatArentTold() {
        Check.sentence("I: 2 a NAME that isn't told, or is of another sort than must stand there");
        for (String marked : new String[] {"way ^# z wind 1 loss 1", "way z ^# wind 1 loss 1", "flies a 0 ^#", "flies a 0 s,^#",
            "ring a ^# 1"}) {
            wrongNames(marked, "a o");
        }
        for (String marked : new String[] {"flies ^# 0 s", "ring ^# h 1", "back ^# h"}) {
            wrongNames(marked, "h s z o");
        }
        wrongNames("out ^# 1 to 2", "h s z a");
        Check.sentence("I: 2 a STOP that is no hall where one must be, too");
        for (String marked : new String[] {"umbrella b golf strong 1 home ^#", "back a ^#", "owner p ^#"}) {
            wrongNames(marked, "a o s z");
            Check.good(OWNED + ";" + marked.replace("^#", "h"));
        }
    }

    private static void wrongNames(String marked, String ofOtherSorts) {
        Check.fault(2, OWNED + ";" + marked.replace("#", "nn"));
        for (String name : ofOtherSorts.split(" ")) {
            Check.fault(2, OWNED + ";" + marked.replace("#", name));
        }
    }

    private static void aheadOfItsUse() {
        Check.sentence("I: NAMES .. each told once, ahead of its use");
        Check.fault(2, OWNED + ";ring a ^k 1;stop k hall");
        Check.good(OWNED + ";stop k hall;ring a k 1");
        Check.fault(2, OWNED + ";back ^b h;umbrella b golf strong 1 home h");
        Check.fault(2, OWNED + ";out ^p 1 to 1;owner p h");
        Check.fault(2, OWNED + ";owner p ^p");
        Check.fault(7, ONE + ";flies a 0 ^z;way h z wind 1 loss 1");
    }

    // ---- faults

    private static void waysToldAgain() {
        Check.sentence("I: 3 a second STOP of a way that is the first, or to which there is a way from it already");
        Check.fault(3, ONE + ";way h ^h");
        Check.fault(3, ONE + ";way z ^z wind 1 loss 1");
        Check.fault(3, ONE + ";way h ^s");
        Check.fault(3, ONE + ";way h z wind 0 loss 0;way h ^z wind 0 loss 0");
        Check.good(ONE + ";way h z wind 0 loss 0;way z h wind 0 loss 0;way z s wind 0 loss 0");
    }

    private static void fliesToldAgain() {
        Check.sentence("I: 3 an UMBRELLA that flies already; at it (once for each)");
        Check.fault(3, ONE + ";flies a 0 s;flies ^a 0 s");
        Check.fault(3, ONE + ";flies a 1 s;flies ^a");
        Check.good(ONE + ";umbrella b miser strong 1 home h;flies a 0 s;flies b 0 s");
    }

    private static void backToldAgain() {
        Check.sentence("I: 3 an UMBRELLA that is back already; at it (once for each)");
        Check.fault(3, ONE + ";back a h;back ^a h");
        Check.fault(3, ONE + ";stop k hall;back a k;back ^a");
        Check.good(ONE + ";umbrella b miser strong 1 home h;back a h;back b h");
    }

    private static void rainToldAgain() {
        Check.sentence("I: 3 a day of rain told again; at it (once)");
        for (int day = 0; day < 5; day++) {
            Check.fault(3, ONE + ";rain " + day + ";rain ^" + day);
            Check.fault(3, ONE + ";rain " + day + ";rain ^00" + day);
            Check.good(ONE + ";rain " + day + ";rain " + (day + 1) % 5);
        }
    }

    private static void flightToldAgain() {
        Check.sentence("I: 3 a second flight: at that WORD");
        Check.fault(3, ONE + ";^flight");
        Check.fault(3, ONE + ";^" + FLIGHT);
        Check.fault(3, FLIGHT + "; ^flight days 99");
    }

    private static void aheadOfTheFlight() {
        Check.sentence("I: 6 LACKS: any LINE ahead of the flight; at its WORD");
        for (String word : LINE_WORDS) {
            if (!word.equals("flight")) {
                Check.fault(6, "^" + word);
                Check.fault(6, "  ^" + word + " $");
                Check.fault(6, "^" + word + " h hall;" + ONE);
            }
        }
    }

    private static void withoutUmbrella() {
        Check.sentence("I: 6 LACKS: at the end: no umbrella");
        Check.fault(6, FLIGHT + "^");
        Check.fault(6, FLIGHT + "   ^");
        Check.fault(6, MAP + "^");
        Check.fault(6, MAP + ";owner o h;out o 1 to 1;rain 1  ^");
        Check.fault(1, MAP + ";^");
        Check.good(FLIGHT + ";stop h hall;umbrella a black strong 0 home h");
    }

    private static void withoutWay() {
        Check.sentence("I: 7 a STOP it flies to without a way from the one ahead (the first from its home); at it");
        Check.fault(7, ONE + ";flies a 0 ^h");
        Check.fault(7, ONE + ";flies a 0 ^z,s");
        Check.fault(7, ONE + ";flies a 0 s,^s");
        Check.fault(7, ONE + ";flies a 0 s,z,^s");
        Check.fault(7, ONE + ";flies a 0 s,h,s,h,^z");
        Check.good(ONE + ";flies a 0 s,h,s,h,s");
        Check.fault(7, ONE + ";stop k hall;umbrella b golf strong 1 home k;flies b 0 ^s");
        Check.good(ONE + ";stop k hall;way k z wind 0 loss 0;umbrella b golf strong 1 home k;flies b 0 z");
    }

    private static void fromTheLeft() {
        Check.sentence("I: FAULTS, the first that is met from the left");
        Check.fault(7, ONE + ";flies a 0 ^z;rain 9;stop h hall;$");
        Check.fault(4, "flight days ^1 grows 100 room 0;way");
        Check.fault(3, ONE + ";way h ^h wind 10 loss 99");
        Check.fault(2, ONE + ";ring a ^nn 9");
        Check.fault(4, ONE + ";flies a ^9 nn");
        Check.fault(6, "^stop stop;" + ONE);
        Check.fault(3, ONE + ";umbrella ^h odd strong 31 home z");
    }

    private static void theLeastOfOnePlace() {
        Check.sentence("I: of one place the least number");
        String five = ONE + ";flies a 0 s,h,s,h,s";
        Check.fault(1, five + ",^");
        Check.fault(1, five + ",^7");
        Check.fault(1, five + ",^rain");
        Check.fault(1, five + ",^$");
        Check.fault(2, five + ",^nn");
        Check.fault(2, five + ",^a");
        Check.fault(5, five + ",^s");
        Check.fault(1, "^");
        Check.fault(1, "^nn");
        Check.fault(1, "flight days 5 grows 1 room^");
    }

    public static void main(String[] args) {
        tapeBytes();
        blanks();
        noTokens();
        words();
        wholes();
        signs();
        lines();
        theEnd();
        wordsOfLines();
        boundsOfTheFlight();
        boundsOfWays();
        boundsOfUmbrellas();
        boundsOfRings();
        boundsOfOuts();
        boundsOfRains();
        boundsOfWinds();
        roomForStops();
        roomForWays();
        roomForUmbrellas();
        roomForRings();
        roomForOwners();
        roomForOuts();
        roomForRains();
        roomForWinds();
        roomForStopsFlownTo();
        oncePerUmbrella();
        wordsThatAreNoNames();
        namesToldAgain();
        namesThatArentTold();
        aheadOfItsUse();
        waysToldAgain();
        fliesToldAgain();
        backToldAgain();
        rainToldAgain();
        flightToldAgain();
        aheadOfTheFlight();
        withoutUmbrella();
        withoutWay();
        fromTheLeft();
        theLeastOfOnePlace();
        Check.end();
    }
}
