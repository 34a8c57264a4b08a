/** Promises 42 to 50: acts, undoing, marks, sizes, trouble. */
public final class ActsTest {
    private static void keep() {
        UmbrellaFlight x = Check.told(Check.MAP, 5);
        Check.fine(x, "keep", x.keep(0, true));
        Check.refused(x, "keep again", x.keep(0, true), 5);
        Check.fine(x, "is kept", x.umbrella(0, 5), 1);
        Check.fine(x, "stays", x.at(0, 5), 0);
        Check.fine(x, "flocks are fewer", x.flock(1, 1), 2);
        Check.fine(x, "still as it would fly", x.umbrella(0, 3), 1);
        Check.fine(x, "let go", x.keep(0, false));
        Check.refused(x, "let go again", x.keep(0, false), 5);
        Check.fine(x, "flies again", x.at(0, 5), 3);
        Check.fine(x, "keep a miser", x.keep(3, true));
        Check.fine(x, "which is kept then", x.umbrella(3, 5), 1);
        Check.refused(x, "keep 5", x.keep(5, true), 1);
        Check.refused(x, "keep -1", x.keep(-1, false), 1);
        Check.due("acts", x.size(12), 3);
    }

    private static void send() {
        UmbrellaFlight x = Check.told(Check.MAP, 5);
        Check.refused(x, "just as it flies", x.send(0, 0, 1), 5);
        Check.fine(x, "another day", x.send(0, 0, 2));
        Check.fine(x, "setting out", x.umbrella(0, 3), 2);
        Check.fine(x, "another way", x.send(0, 1, 2));
        Check.fine(x, "ways", x.umbrella(0, 4), 1);
        Check.fine(x, "its stop", x.flies(0, 0), 3);
        Check.refused(x, "no more", x.flies(0, 1), -1, 1);
        Check.fine(x, "at z", x.at(0, 2), 3);
        Check.fine(x, "strength", x.strength(0, 2), 1);
        Check.refused(x, "the same again", x.send(0, 1, 2), 5);
        Check.refused(x, "send 5", x.send(5, 0, 9), 1);
        Check.refused(x, "send by none", x.send(0, 2, 9), 1);
        Check.refused(x, "send by -1", x.send(0, -1, 0), 1);
        Check.refused(x, "send on 6", x.send(0, 1, 6), 2);
        Check.refused(x, "send on -1", x.send(0, 1, -1), 2);
        Check.refused(x, "a miser doesn't fly", x.bestDay(3), -1, 6);
        Check.fine(x, "send a miser", x.send(3, 0, 0));
        Check.fine(x, "it stays", x.at(3, 5), 1);
        Check.fine(x, "its day", x.umbrella(3, 3), 0);
        Check.fine(x, "its ways", x.umbrella(3, 4), 2);
        Check.fine(x, "its best day", x.bestDay(3), 0);
        Check.refused(x, "a miser just so", x.send(3, 0, 0), 5);
        Check.fine(x, "keep", x.keep(1, true));
        Check.fine(x, "send one kept", x.send(1, 1, 0));
        Check.fine(x, "it stays, too", x.at(1, 5), 0);
        Check.fine(x, "let go", x.keep(1, false));
        Check.fine(x, "then it goes", x.at(1, 0), 3);
    }

    private static void mend() {
        UmbrellaFlight x = Check.told(Check.ONE + ";umbrella b golf strong 29 home h;flies a 0 z", 2);
        Check.fine(x, "mend a", x.mend(0), 2);
        Check.fine(x, "strong", x.umbrella(0, 1), 2);
        Check.fine(x, "left", x.strength(0, 0), 1);
        Check.fine(x, "mend b", x.mend(1), 30);
        Check.refused(x, "no more", x.mend(1), -1, 5);
        Check.refused(x, "mend 2", x.mend(2), -1, 1);
        Check.refused(x, "mend -1", x.mend(-1), -1, 1);
        Check.due("acts", x.size(12), 2);
    }

    private static void undo() {
        UmbrellaFlight x = Check.told(Check.MAP, 5);
        for (int i = 1; i <= 17; i++) {
            Check.fine(x, "mend " + i, x.mend(0), 7 + i);
            Check.due("acts " + i, x.size(12), Math.min(i, 16));
        }
        for (int i = 1; i <= 16; i++) {
            Check.fine(x, "undo " + i, x.undo());
            Check.fine(x, "strong " + i, x.umbrella(0, 1), 24 - i);
        }
        Check.refused(x, "undo no more", x.undo(), 6);
        Check.fine(x, "the oldest act stays", x.umbrella(0, 1), 8);
        Check.fine(x, "keep", x.keep(2, true));
        Check.fine(x, "send", x.send(0, 1, 0));
        Check.fine(x, "arrived", x.arrived(), 3);
        Check.fine(x, "undo send", x.undo());
        Check.fine(x, "as told", x.umbrella(0, 4), 2);
        Check.fine(x, "its day", x.umbrella(0, 3), 1);
        Check.fine(x, "undo keep", x.undo());
        Check.fine(x, "not kept", x.umbrella(2, 5), 0);
        Check.fine(x, "arrived again", x.arrived(), 7);
        Check.fine(x, "send d", x.send(3, 0, 1));
        Check.fine(x, "undo it", x.undo());
        Check.fine(x, "doesn't fly", x.umbrella(3, 3), -2);
        Check.fine(x, "takes no way", x.umbrella(3, 4), 0);
    }

    private static void marks() {
        UmbrellaFlight x = Check.told(Check.MAP, 5);
        Check.refused(x, "back to none", x.back(0), 1);
        Check.fine(x, "mark 0", x.mark(), 0);
        Check.fine(x, "keep", x.keep(0, true));
        Check.fine(x, "mark 1", x.mark(), 1);
        Check.fine(x, "mend", x.mend(1), 10);
        Check.fine(x, "send", x.send(2, 0, 0));
        Check.due("a mark is no act", x.size(12), 3);
        Check.fine(x, "mark 2", x.mark(), 2);
        Check.refused(x, "mark 3", x.mark(), -1, 3);
        Check.due("marks", x.size(13), 3);
        Check.fine(x, "back 1", x.back(1));
        Check.due("nothing to undo", x.size(12), 0);
        Check.refused(x, "undo", x.undo(), 6);
        Check.due("all marks stay", x.size(13), 3);
        Check.fine(x, "kept", x.umbrella(0, 5), 1);
        Check.fine(x, "strong", x.umbrella(1, 1), 9);
        Check.fine(x, "day", x.umbrella(2, 3), 2);
        Check.fine(x, "back 2", x.back(2));
        Check.fine(x, "strong", x.umbrella(1, 1), 10);
        Check.fine(x, "at s", x.at(2, 0), 2);
        Check.fine(x, "back 0", x.back(0));
        Check.fine(x, "not kept", x.umbrella(0, 5), 0);
        Check.fine(x, "arrived", x.arrived(), 7);
        Check.fine(x, "mend behind it", x.mend(0), 8);
        Check.fine(x, "back 0 again", x.back(0));
        Check.fine(x, "the mark is as it was", x.umbrella(0, 1), 7);
        Check.refused(x, "back 3", x.back(3), 1);
        Check.refused(x, "back -1", x.back(-1), 1);
    }

    private static void sizes() {
        UmbrellaFlight x = Check.told(Check.MAP + ";ring a s 1;ring a h 0;back a k;owner p h;owner q k;owner r k;"
            + "out p 0 to 2;out p 1 to 1;rain 1;rain 2;rain 0;wind 50 good 1 bad 2", 5);
        Check.fine(x, "mend", x.mend(0), 8);
        Check.fine(x, "mark", x.mark(), 0);
        Check.fine(x, "keep", x.keep(0, true));
        x.feed(0, 0, 0, 0, 0);
        int[] due = {6, 50, 100, 4, 4, 5, 2, 1, 3, 2, 3, 1, 2, 1, 20};
        for (int what = 0; what < due.length; what++) {
            Check.due("size " + what, x.size(what), due[what]);
        }
        Check.due("size 15", x.size(15), -1);
        Check.due("size -1", x.size(-1), -1);
        Check.due("size far", x.size(Integer.MIN_VALUE), -1);
        Check.due("size leaves trouble", x.trouble(), 0);
        Check.refused(x, "stop 9", x.stop(9), -1, 1);
        x.size(99);
        x.fault();
        x.where();
        x.feed(0, 0, 0, 0, 0);
        Check.led(x, 99);
        Check.due("trouble of the latest that may be refused", x.trouble(), 1);
    }

    public static void main(String[] args) {
        keep();
        send();
        mend();
        undo();
        marks();
        sizes();
        Check.end();
    }
}
