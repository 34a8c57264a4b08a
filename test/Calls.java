/** The calls of the face from promise 4 on by the numbers of their promises, so that tests can go through all. */
final class Calls {
    static final int FIRST = 4;
    static final int LAST = 50;

    private Calls() {
    }

    /** Those of which the document tells a number for their refusal; flight is one more. */
    static boolean mayBeRefused(int which) {
        return which > 5 && which < 48;
    }

    /** What a call answers that is refused. */
    static int refusal(int which) {
        boolean isTrueOrFalse = which == 42 || which == 43 || which == 45 || which == 47;
        return which == 34 ? -100 : isTrueOrFalse ? 0 : -1;
    }

    /** What answers true or false answers 1 or 0 here. */
    static long ask(UmbrellaFlight x, int which, int a, int b, int c) {
        switch (which) {
            case 4: return x.fault();
            case 5: return x.where();
            case 6: return x.stop(a);
            case 7: return x.way(a, b, c);
            case 8: return x.umbrella(a, b);
            case 9: return x.flies(a, b);
            case 10: return x.at(a, b);
            case 11: return x.strength(a, b);
            case 12: return x.flock(a, b);
            case 13: return x.falls(a);
            case 14: return x.arrived();
            case 15: return x.many(a, b);
            case 16: return x.wedge();
            case 17: return x.strongest();
            case 18: return x.judge();
            case 19: return x.waysOut(a);
            case 20: return x.wayOut(a, b, c);
            case 21: return x.chance(a, b, c == 1);
            case 22: return x.bestWay(a);
            case 23: return x.bestDay(a);
            case 24: return x.bestMany(a);
            case 25: return x.fits(a);
            default: return askOn(x, which, a, b, c);
        }
    }

    private static long askOn(UmbrellaFlight x, int which, int a, int b, int c) {
        switch (which) {
            case 26: return x.could(a);
            case 27: return x.surely(a);
            case 28: return x.likeliest(a);
            case 29: return x.count(a);
            case 30: return x.countMost(a);
            case 31: return x.wet(a);
            case 32: return x.wetDays(a);
            case 33: return x.pins(a);
            case 34: return x.spare(a);
            case 35: return x.handings();
            case 36: return x.mean(a == 1);
            case 37: return x.go(a, b == 1);
            case 38: return x.herd(a, b, c);
            case 39: return x.mostTaken(a, b);
            case 40: return x.yearBy(a);
            case 41: return x.seasons(a, b);
            case 42: return x.keep(a, b == 1) ? 1 : 0;
            case 43: return x.send(a, b, c) ? 1 : 0;
            case 44: return x.mend(a);
            case 45: return x.undo() ? 1 : 0;
            case 46: return x.mark();
            case 47: return x.back(a) ? 1 : 0;
            case 48: return Check.led(x, a);
            case 49: return x.size(a);
            default: return x.trouble();
        }
    }
}
