/** Promises 42 to 47, 49 and 50, and terms IV: each sentence that names an edge, by a test of its own. */
public final class ActsEdgesTest {
    private static final String ONE = Check.ONE + ";flies a 1 z";
    private static final int[] FAR = {-1, 100, Integer.MIN_VALUE, Integer.MAX_VALUE};

    // ---- keeping, sending, mending

    private static void keptAlready() {
        Check.sentence("42: 5 (it is so already)");
        UmbrellaFlight x = Check.told(ONE, 1);
        Check.refused(x, "let go one that isn't kept", x.keep(0, false), 5);
        Check.due("no act", x.size(12), 0);
        Check.fine(x, "keep", x.keep(0, true));
        Check.refused(x, "keep one that is", x.keep(0, true), 5);
        Check.due("one act", x.size(12), 1);
        Check.fine(x, "it is so still", x.umbrella(0, 5), 1);
        Check.fine(x, "let go", x.keep(0, false));
        Check.refused(x, "let go again", x.keep(0, false), 5);
        Check.fine(x, "it flies again", x.arrived(), 1);
    }

    private static void keepsEach() {
        Check.sentence("42: KEEP: each by itself");
        UmbrellaFlight x = Check.told(Check.MAP, 5);
        for (int u = 0; u < 5; u++) {
            Check.fine(x, "keep", x.keep(u, true));
            for (int v = 0; v < 5; v++) {
                Check.fine(x, "kept " + v, x.umbrella(v, 5), v <= u ? 1 : 0);
            }
        }
        Check.fine(x, "let go", x.keep(1, false));
        for (int v = 0; v < 5; v++) {
            Check.fine(x, "kept " + v, x.umbrella(v, 5), v == 1 ? 0 : 1);
        }
    }

    private static void keepRefused() {
        Check.sentence("42: false: 1");
        UmbrellaFlight x = Check.told(ONE, 1);
        Check.refused(x, "keep(1)", x.keep(1, true), 1);
        Check.refused(x, "let go 1", x.keep(1, false), 1);
        for (int wrong : FAR) {
            Check.refused(x, "keep(" + wrong + ")", x.keep(wrong, true), 1);
            Check.refused(x, "let go " + wrong, x.keep(wrong, false), 1);
        }
        Check.due("no act", x.size(12), 0);
    }

    private static void sentJustSo() {
        Check.sentence("43: 5 (it flies just so)");
        UmbrellaFlight x = Check.told(Check.MAP, 5);
        Check.refused(x, "as told", x.send(0, 0, 1), 5);
        Check.due("no act", x.size(12), 0);
        Check.fine(x, "on another day", x.send(0, 0, 0));
        Check.refused(x, "again", x.send(0, 0, 0), 5);
        Check.fine(x, "by another way out", x.send(0, 1, 0));
        Check.refused(x, "again", x.send(0, 1, 0), 5);
        Check.fine(x, "on the last day", x.send(0, 1, 5));
        Check.fine(x, "as told again", x.send(0, 0, 1));
        Check.refused(x, "as told", x.send(0, 0, 1), 5);
        Check.due("acts", x.size(12), 4);
        x = Check.told(Check.ONE, 1);
        Check.fine(x, "one that didn't fly", x.send(0, 0, 0));
        Check.fine(x, "flies now", x.arrived(), 1);
        Check.refused(x, "again", x.send(0, 0, 0), 5);
    }

    /** A row that is no way out, for it ends in no south or comes twice to a stop, is another one. */
    private static void sentFromAnotherRow() {
        Check.sentence("43: SEND by its k-th WAY OUT: what it flew may have been none");
        UmbrellaFlight x = Check.told(Check.HEAD + ";way z h wind 0 loss 0;umbrella a black strong 9 home h;flies a 0 z,h,z", 1);
        Check.fine(x, "three ways", x.umbrella(0, 4), 3);
        Check.fine(x, "send", x.send(0, 0, 0));
        Check.fine(x, "one way", x.umbrella(0, 4), 1);
        Check.refused(x, "and no more", x.flies(0, 1), -1, 1);
        Check.fine(x, "undo", x.undo());
        Check.fine(x, "three ways again", x.umbrella(0, 4), 3);
    }

    private static void sentThoughItStays() {
        Check.sentence("43: (a miser, one KEPT, too: it stays all the same)");
        UmbrellaFlight x = Check.told(Check.MAP, 5);
        Check.fine(x, "send the miser", x.send(3, 0, 0));
        Check.fine(x, "it stays", x.at(3, 5), 1);
        Check.refused(x, "just so", x.send(3, 0, 0), 5);
        Check.fine(x, "keep", x.keep(0, true));
        Check.fine(x, "send it", x.send(0, 1, 0));
        Check.fine(x, "it stays", x.at(0, 5), 0);
        Check.refused(x, "just so", x.send(0, 1, 0), 5);
        Check.fine(x, "let go", x.keep(0, false));
        Check.fine(x, "it goes as it was sent", x.at(0, 0), 3);
    }

    private static void sendRefused() {
        Check.sentence("43: false: 1; 2 (day); 5");
        UmbrellaFlight x = Check.told(Check.MAP, 5);
        Check.refused(x, "send(5, 0, 0)", x.send(5, 0, 0), 1);
        Check.refused(x, "send(0, 2, 0)", x.send(0, 2, 0), 1);
        Check.refused(x, "send(0, 0, 6)", x.send(0, 0, 6), 2);
        Check.refused(x, "send(0, 2, 6)", x.send(0, 2, 6), 1);
        for (int wrong : FAR) {
            Check.refused(x, "send(" + wrong + ", 0, 0)", x.send(wrong, 0, 0), 1);
            Check.refused(x, "send(0, " + wrong + ", 0)", x.send(0, wrong, 0), 1);
            Check.refused(x, "send(0, 0, " + wrong + ")", x.send(0, 0, wrong), 2);
        }
        x = Check.told(Check.ONE + ";stop k hall;umbrella b golf strong 1 home k", 2);
        Check.refused(x, "one without ways out", x.send(1, 0, 0), 1);
        Check.due("no act", x.size(12), 0);
    }

    private static void mendedUpTo30() {
        Check.sentence("44: MEND: (one stronger, 30 at most): how strong it is then. NONE: 5 (30)");
        UmbrellaFlight x = Check.told(Check.HEAD + ";umbrella a black strong 28 home h;umbrella b miser strong 0 home h", 2);
        Check.fine(x, "mend", x.mend(0), 29);
        Check.fine(x, "mend", x.mend(0), 30);
        for (int i = 0; i < 3; i++) {
            Check.refused(x, "mend at 30", x.mend(0), -1, 5);
            Check.fine(x, "still 30", x.umbrella(0, 1), 30);
        }
        Check.due("acts", x.size(12), 2);
        Check.fine(x, "a miser", x.mend(1), 1);
        x = Check.told(Check.HEAD + ";umbrella a black strong 30 home h", 1);
        Check.refused(x, "told so", x.mend(0), -1, 5);
        Check.due("acts", x.size(12), 0);
    }

    private static void mendRefused() {
        Check.sentence("44: NONE: 1");
        UmbrellaFlight x = Check.told(ONE, 1);
        Check.refused(x, "mend(1)", x.mend(1), -1, 1);
        for (int wrong : FAR) {
            Check.refused(x, "mend(" + wrong + ")", x.mend(wrong), -1, 1);
        }
        Check.due("acts", x.size(12), 0);
    }

    private static void yearFollows() {
        Check.sentence("42 to 47: a YEAR is as all is NOW, behind each act and undoing");
        UmbrellaFlight x = Check.told(Check.HEAD + ";umbrella a black strong 0 home h;flies a 1 z", 1);
        Check.fine(x, "as told it falls", x.falls(0), 1);
        Check.fine(x, "mark", x.mark(), 0);
        Check.fine(x, "send", x.send(0, 0, 3));
        Check.fine(x, "on another day", x.falls(0), 3);
        Check.fine(x, "mend", x.mend(0), 1);
        Check.fine(x, "strong enough", x.at(0, 3), 1);
        Check.fine(x, "keep", x.keep(0, true));
        Check.fine(x, "at home", x.at(0, 3), 0);
        Check.fine(x, "undo", x.undo());
        Check.fine(x, "strong enough again", x.at(0, 3), 1);
        Check.fine(x, "undo", x.undo());
        Check.fine(x, "it falls again", x.falls(0), 3);
        Check.fine(x, "undo", x.undo());
        Check.fine(x, "on its day as told", x.falls(0), 1);
        Check.fine(x, "mend", x.mend(0), 1);
        Check.fine(x, "strong enough", x.falls(0), -2);
        Check.fine(x, "back", x.back(0));
        Check.fine(x, "it falls", x.falls(0), 1);
    }

    // ---- undoing, marks

    private static void sixteenAreKept() {
        Check.sentence("III: UNDO: the latest (16 are kept)");
        for (int acts = 15; acts <= 20; acts++) {
            UmbrellaFlight x = Check.told(Check.HEAD + ";umbrella a black strong 0 home h", 1);
            for (int i = 1; i <= acts; i++) {
                Check.fine(x, "mend", x.mend(0), i);
                Check.due("acts", x.size(12), Math.min(i, 16));
            }
            int kept = Math.min(acts, 16);
            for (int i = 1; i <= kept; i++) {
                Check.fine(x, "undo", x.undo());
                Check.fine(x, "strong", x.umbrella(0, 1), acts - i);
                Check.due("acts", x.size(12), kept - i);
            }
            Check.refused(x, "undo of none", x.undo(), 6);
            Check.fine(x, "strong", x.umbrella(0, 1), acts - kept);
        }
    }

    private static void undoneAndDoneAgain() {
        Check.sentence("III: UNDO: the latest: acts behind an undoing take its place");
        UmbrellaFlight x = Check.told(Check.HEAD + ";umbrella a black strong 0 home h;umbrella b black strong 0 home h", 2);
        for (int i = 0; i < 18; i++) {
            x.mend(0);
        }
        for (int i = 0; i < 10; i++) {
            Check.fine(x, "undo", x.undo());
        }
        Check.fine(x, "strong", x.umbrella(0, 1), 8);
        for (int i = 0; i < 12; i++) {
            x.mend(1);
        }
        Check.due("acts", x.size(12), 16);
        for (int i = 11; i >= 0; i--) {
            Check.fine(x, "undo", x.undo());
            Check.fine(x, "strong b", x.umbrella(1, 1), i);
            Check.fine(x, "strong a", x.umbrella(0, 1), 8);
        }
        for (int i = 7; i >= 4; i--) {
            Check.fine(x, "undo", x.undo());
            Check.fine(x, "strong a", x.umbrella(0, 1), i);
        }
        Check.refused(x, "undo of none", x.undo(), 6);
    }

    private static void undoEach() {
        Check.sentence("45: UNDO: true: of KEEP, SEND and MEND, be they of no use");
        UmbrellaFlight x = Check.told(Check.MAP, 5);
        Check.fine(x, "keep", x.keep(0, true));
        Check.fine(x, "send", x.send(0, 1, 3));
        Check.fine(x, "mend", x.mend(0), 8);
        Check.fine(x, "let go", x.keep(0, false));
        int[][] due = {{8, 3, 1, 1}, {7, 3, 1, 1}, {7, 1, 2, 1}, {7, 1, 2, 0}};
        for (int[] now : due) {
            Check.fine(x, "undo", x.undo());
            Check.fine(x, "strong", x.umbrella(0, 1), now[0]);
            Check.fine(x, "sets out", x.umbrella(0, 3), now[1]);
            Check.fine(x, "ways", x.umbrella(0, 4), now[2]);
            Check.fine(x, "kept", x.umbrella(0, 5), now[3]);
        }
        Check.fine(x, "the year, too", x.arrived(), 7);
    }

    private static void undoRefused() {
        Check.sentence("45: false: 6");
        UmbrellaFlight x = new UmbrellaFlight();
        Check.refused(x, "without a flight", x.undo(), 6);
        x = Check.told(ONE, 1);
        Check.refused(x, "nothing is done", x.undo(), 6);
        x.keep(0, false);
        x.send(0, 0, 1);
        x.mend(1);
        Check.refused(x, "what was refused is no act", x.undo(), 6);
        Check.fine(x, "mark", x.mark(), 0);
        Check.refused(x, "a mark is no act", x.undo(), 6);
        Check.fine(x, "back", x.back(0));
        Check.refused(x, "nor is going back", x.undo(), 6);
        Check.fine(x, "mend", x.mend(0), 2);
        Check.fine(x, "undo", x.undo());
        Check.refused(x, "nor is undoing", x.undo(), 6);
    }

    private static void threeMarks() {
        Check.sentence("III: MARKS: up to 3; 46: its number. NONE: 1 (no FLIGHT); 3");
        UmbrellaFlight none = new UmbrellaFlight();
        Check.refused(none, "without a flight", none.mark(), -1, 1);
        UmbrellaFlight x = Check.told(ONE, 1);
        for (int i = 0; i < 3; i++) {
            Check.due("marks", x.size(13), i);
            Check.fine(x, "mark", x.mark(), i);
        }
        for (int i = 0; i < 2; i++) {
            Check.refused(x, "no room", x.mark(), -1, 3);
            Check.due("marks", x.size(13), 3);
            Check.fine(x, "back", x.back(2));
        }
    }

    private static void backToEach() {
        Check.sentence("47: All is as by a MARK (all MARKS stay)");
        UmbrellaFlight x = Check.told(Check.MAP, 5);
        Check.fine(x, "mark", x.mark(), 0);
        Check.fine(x, "keep", x.keep(0, true));
        Check.fine(x, "mend", x.mend(1), 10);
        Check.fine(x, "mark", x.mark(), 1);
        Check.fine(x, "send", x.send(2, 0, 0));
        Check.fine(x, "mark", x.mark(), 2);
        int[][] due = {{0, 9, 2, 7}, {1, 10, 2, 6}, {1, 10, 0, 6}};
        for (int mark : new int[] {2, 0, 1, 1, 2, 0, 0}) {
            Check.fine(x, "back", x.back(mark));
            Check.fine(x, "kept", x.umbrella(0, 5), due[mark][0]);
            Check.fine(x, "strong", x.umbrella(1, 1), due[mark][1]);
            Check.fine(x, "sets out", x.umbrella(2, 3), due[mark][2]);
            Check.fine(x, "arrived", x.arrived(), due[mark][3]);
            Check.due("marks", x.size(13), 3);
            Check.fine(x, "an act behind it", x.mend(4), 7);
        }
    }

    private static void undoLeavesMarks() {
        Check.sentence("45, 47: UNDO is of acts alone: all MARKS stay");
        UmbrellaFlight x = Check.told(ONE, 1);
        Check.fine(x, "mend", x.mend(0), 2);
        Check.fine(x, "mark", x.mark(), 0);
        Check.fine(x, "undo", x.undo());
        Check.due("marks", x.size(13), 1);
        Check.fine(x, "strong", x.umbrella(0, 1), 1);
        Check.fine(x, "back", x.back(0));
        Check.fine(x, "strong", x.umbrella(0, 1), 2);
    }

    private static void backEndsUndoing() {
        Check.sentence("III: gone back to one, nothing can be undone");
        UmbrellaFlight x = Check.told(ONE, 1);
        Check.fine(x, "mend", x.mend(0), 2);
        Check.fine(x, "mark", x.mark(), 0);
        Check.due("a mark leaves what can be undone", x.size(12), 1);
        Check.fine(x, "mend", x.mend(0), 3);
        Check.due("acts", x.size(12), 2);
        Check.fine(x, "back", x.back(0));
        Check.due("acts", x.size(12), 0);
        Check.refused(x, "undo", x.undo(), 6);
        Check.fine(x, "as by the mark", x.umbrella(0, 1), 2);
        for (int i = 0; i < 17; i++) {
            Check.fine(x, "mend", x.mend(0), 3 + i);
        }
        for (int i = 15; i >= 0; i--) {
            Check.fine(x, "undo", x.undo());
            Check.fine(x, "strong", x.umbrella(0, 1), 3 + i);
        }
        Check.refused(x, "undo no more", x.undo(), 6);
    }

    private static void refusedBackLeavesAll() {
        Check.sentence("47: false: 1");
        UmbrellaFlight x = Check.told(ONE, 1);
        Check.refused(x, "no mark yet", x.back(0), 1);
        Check.fine(x, "mark", x.mark(), 0);
        Check.fine(x, "mend", x.mend(0), 2);
        for (int wrong : new int[] {-1, 1, 2, 3, Integer.MIN_VALUE, Integer.MAX_VALUE}) {
            Check.refused(x, "back(" + wrong + ")", x.back(wrong), 1);
            Check.fine(x, "strong", x.umbrella(0, 1), 2);
            Check.due("acts", x.size(12), 1);
        }
    }

    private static void upToTheLastCall() {
        Check.sentence("An object is used for at most 512 calls after it has been made");
        UmbrellaFlight x = new UmbrellaFlight();
        Check.feed(x, ONE);
        x.flight(ONE.length());
        int calls = (ONE.length() + 19) / 20 + 1;
        for (boolean is = true; calls < 510; calls++, is = !is) {
            x.keep(0, is);
        }
        boolean kept = (calls - (ONE.length() + 19) / 20 - 1) % 2 == 1;
        Check.due("the 511th, what can be undone", x.size(12), 16);
        Check.due("the 512th, whether it is kept", x.umbrella(0, 5), kept ? 1 : 0);
    }

    // ---- sizes and trouble

    private static void sizes() {
        Check.sentence("49: 0 for what there isn't");
        for (int what = 0; what <= 14; what++) {
            Check.due("size " + what + ", no flight", new UmbrellaFlight().size(what), 0);
        }
        UmbrellaFlight x = Check.told("flight days 2 grows 0 room 1;stop h hall;umbrella a black strong 1 home h", 1);
        int[] due = {2, 0, 1, 1, 0, 1, 0, 0, 0, 0, 0, 0, 0, 0, 0};
        for (int what = 0; what <= 14; what++) {
            Check.due("size " + what, x.size(what), due[what]);
        }
    }

    private static void sizesOfOthers() {
        Check.sentence("49: NONE for others");
        UmbrellaFlight x = Check.told(ONE, 1);
        for (int what : new int[] {-1, 15, 16, 100, Integer.MIN_VALUE, Integer.MAX_VALUE}) {
            Check.due("size " + what, x.size(what), -1);
            Check.due("size " + what + ", no flight", new UmbrellaFlight().size(what), -1);
        }
    }

    private static void sizesOfAll() {
        Check.sentence("49: 0 days .. 14 bytes of THE TAPE, each by its own number");
        UmbrellaFlight x = Check.told("flight days 20 grows 99 room 999;stop h hall;stop z south;way h z wind 0 loss 0;"
            + "umbrella a black strong 0 home h;umbrella b black strong 0 home h;umbrella c black strong 0 home h;ring a h 1;"
            + "ring a h 1;ring a h 1;ring a h 1;back a h;back c h;owner o h;owner p h;owner q h;owner r h;owner v h;"
            + "out o 1 to 1;out o 1 to 1;out o 1 to 1;out o 1 to 1;out o 1 to 1;out o 1 to 1;rain 1;rain 2;rain 3;rain 4;"
            + "rain 5;rain 6;rain 7;wind 1 good 1 bad 1;wind 1 good 1 bad 1", 3);
        Check.fine(x, "mend", x.mend(0), 1);
        Check.fine(x, "mend", x.mend(0), 2);
        Check.fine(x, "mend", x.mend(0), 3);
        Check.fine(x, "mark", x.mark(), 0);
        Check.due("feed", x.feed(0, 0, 0, 0, 0), 20);
        int[] due = {20, 99, 999, 2, 1, 3, 4, 2, 5, 6, 7, 2, 3, 1, 20};
        for (int what = 0; what < due.length; what++) {
            Check.due("size " + what, x.size(what), due[what]);
        }
    }

    private static void noTrouble() {
        Check.sentence("IV: TROUBLE: 0 it wasn't");
        Check.due("of a new object", new UmbrellaFlight().trouble(), 0);
        int[][] good = new int[48][3];
        good[7] = new int[] {0, 1, 1};
        good[41] = new int[] {0, 1, 0};
        good[42] = new int[] {0, 1, 0};
        for (int which = 6; which < 48; which++) {
            UmbrellaFlight x = Check.told(Check.ONE + ";flies a 1 z;owner o h;wind 1 good 1 bad 1", 1);
            x.mark();
            x.mend(0);
            Check.refused(x, "a stop that isn't", x.stop(2), -1, 1);
            Calls.ask(x, which, good[which][0], good[which][1], good[which][2]);
            Check.due("trouble of a call of promise " + which, x.trouble(), 0);
        }
        UmbrellaFlight x = new UmbrellaFlight();
        x.stop(0);
        Check.fine(x, "flight", Check.tell(x, ONE), 1);
    }

    private static void troubleStays() {
        Check.sentence("IV: TROUBLE of the latest call that may be refused (those of which a number is told here)");
        UmbrellaFlight x = Check.told(ONE, 1);
        for (int trouble = 0; trouble <= 1; trouble++) {
            x.stop(trouble == 0 ? 0 : -1);
            x.feed(0, 0, 0, 0, 0);
            x.fault();
            x.where();
            Check.led(x, 0);
            Check.led(x, 7);
            x.size(0);
            x.size(-1);
            x.trouble();
            Check.due("trouble", x.trouble(), trouble);
        }
        for (int i = 0; i < 60; i++) {
            x.feed(0, 0, 0, 0, 0);
        }
        Check.due("trouble behind a full tape", x.trouble(), 1);
    }

    private static void eachTrouble() {
        Check.sentence("IV: 1 there is none such; 2 a number; 3 no room; 4 a FAULT; 5 not so; 6 there is none");
        UmbrellaFlight x = Check.told(ONE, 1);
        Check.refused(x, "1", x.umbrella(1, 0), -1, 1);
        Check.refused(x, "2", x.at(0, 5), -1, 2);
        x.mark();
        x.mark();
        x.mark();
        Check.refused(x, "3", x.mark(), -1, 3);
        Check.refused(x, "4", x.flight(0), -1, 4);
        Check.refused(x, "5", x.keep(0, false), 5);
        Check.refused(x, "6", x.undo(), 6);
        Check.fine(x, "0", x.stop(0), 0);
    }

    public static void main(String[] args) {
        keptAlready();
        keepsEach();
        keepRefused();
        sentJustSo();
        sentFromAnotherRow();
        sentThoughItStays();
        sendRefused();
        mendedUpTo30();
        mendRefused();
        yearFollows();
        sixteenAreKept();
        undoneAndDoneAgain();
        undoEach();
        undoRefused();
        threeMarks();
        backToEach();
        undoLeavesMarks();
        backEndsUndoing();
        refusedBackLeavesAll();
        upToTheLastCall();
        sizes();
        sizesOfOthers();
        sizesOfAll();
        noTrouble();
        troubleStays();
        eachTrouble();
        Check.end();
    }
}
