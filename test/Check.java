import java.util.NoSuchElementException;

/** What all tests use: texts are fed, answers compared, and the wrong ones told. */
final class Check {
    static final String HEAD = "flight days 5 grows 1 room 9;stop h hall;stop z south;way h z wind 1 loss 1";
    static final String ONE = HEAD + ";umbrella a black strong 1 home h";

    /** Two halls, a strait, a south; five umbrellas, of which four fly. */
    static final String MAP = "flight days 6 grows 50 room 100;stop h hall;stop k hall;stop s strait;stop z south;"
        + "way h s wind 4 loss 10;way s z wind 3 loss 20;way h z wind 6 loss 50;way k s wind 2 loss 0;"
        + "umbrella a black strong 7 home h;umbrella b golf strong 9 home h;umbrella c lady strong 5 home k;"
        + "umbrella d miser strong 9 home k;umbrella e folding strong 6 home h;"
        + "flies a 1 s, z;flies b 1 s, z;flies c 2 s, z;flies e 1 z";

    private static int wrong = 0;
    private static int looked = 0;
    private static String sentence = "";
    private static int sentences = 0;
    private static int lookedAhead = 0;

    private Check() {
    }

    /** What is looked at from here on is due by that sentence of the document. */
    static void sentence(String words) {
        endSentence();
        sentence = words;
        sentences++;
        lookedAhead = looked;
    }

    private static void endSentence() {
        if (sentences > 0 && looked == lookedAhead) {
            wrong++;
            System.out.println("[" + sentence + "] isn't tested");
        }
    }

    static void due(String what, long got, long want) {
        looked++;
        if (got != want) {
            wrong++;
            if (wrong <= 50) {
                System.out.println((sentence.isEmpty() ? "" : "[" + sentence + "] ") + what + " answered " + got
                    + ", due is " + want);
            }
        }
    }

    static void due(String what, boolean got, boolean want) {
        due(what, got ? 1 : 0, want ? 1 : 0);
    }

    /** A call that is refused: what it answers, and its trouble. */
    static void refused(UmbrellaFlight x, String what, long got, long want, int trouble) {
        due(what, got, want);
        due("trouble of " + what, x.trouble(), trouble);
    }

    static void refused(UmbrellaFlight x, String what, boolean got, int trouble) {
        refused(x, what, got ? 1 : 0, 0, trouble);
    }

    /** A call that isn't refused leaves no trouble. */
    static void fine(UmbrellaFlight x, String what, long got, long want) {
        due(what, got, want);
        due("trouble of " + what, x.trouble(), 0);
    }

    static void fine(UmbrellaFlight x, String what, boolean got) {
        fine(x, what, got ? 1 : 0, 1);
    }

    /** -3 stands for the exception. */
    static int led(UmbrellaFlight x, int i) {
        try {
            return x.led(i);
        } catch (NoSuchElementException e) {
            return -3;
        }
    }

    static void feed(UmbrellaFlight x, String text) {
        for (int from = 0; from < text.length(); from += 20) {
            int[] numbers = new int[5];
            for (int i = 0; i < 20; i++) {
                int c = from + i < text.length() ? text.charAt(from + i) : ' ';
                numbers[i / 4] |= c << 24 - 8 * (i % 4);
            }
            x.feed(numbers[0], numbers[1], numbers[2], numbers[3], numbers[4]);
        }
    }

    static int tell(UmbrellaFlight x, String text) {
        feed(x, text);
        return x.flight(text.length());
    }

    static UmbrellaFlight told(String text, int umbrellas) {
        UmbrellaFlight x = new UmbrellaFlight();
        fine(x, "flight of " + text, tell(x, text), umbrellas);
        due("fault of " + text, x.fault(), 0);
        due("where of " + text, x.where(), -1);
        return x;
    }

    static void faulty(String text, int fault, int where) {
        UmbrellaFlight x = new UmbrellaFlight();
        refused(x, "flight of " + text, tell(x, text), -1, 4);
        due("fault of " + text, x.fault(), fault);
        due("where of " + text, x.where(), where);
        due("days behind " + text, x.size(0), 0);
    }

    /** As faulty(), the place being told by the text's mark ^, which isn't fed. */
    static void fault(int fault, String marked) {
        int place = marked.indexOf('^');
        faulty(marked.substring(0, place) + marked.substring(place + 1), fault, place);
    }

    /** A text that has no fault. */
    static UmbrellaFlight good(String text) {
        return told(text, text.split("umbrella ", -1).length - 1);
    }

    static void end() {
        endSentence();
        System.out.println((sentences == 0 ? "" : sentences + " sentences, ") + looked + " answers looked at, " + wrong
            + " wrong");
        if (wrong > 0) {
            System.exit(1);
        }
    }
}
