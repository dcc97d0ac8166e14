/** Promises 15 to 21: rest, lost, least, hire, breaks, blame, always. */
public final class RestTest {
    private static final int MILLION = 1000000;

    public static void main(String[] args) {
        restByCases();
        restRefused();
        lost();
        least();
        hire();
        breaks();
        blame();
        always();
        Due.end();
    }

    /** FARM 0 (HONEST, so that it takes nothing) is met by FARM 1, of a told kind and WORTH. */
    private static NightDitch ditch(int kind, int worth, int sleep, int sees) {
        NightDitch x = new NightDitch();
        x.farm(1, 1, 40);
        x.farm(kind, 1, worth);
        x.set(0, 2, sleep);
        x.set(0, 3, sees);
        x.rule(0, 40);
        return x;
    }

    private static void isAtRest(String which, NightDitch x, int place, int[] due) {
        for (int what = 0; what < due.length; what++) {
            Due.is(which + ": rest(" + place + ", " + what + ")", x.rest(place, what), due[what]);
        }
    }

    private static void restByCases() {
        int[] never = {0, 1, 0, 1, 0, 0, 0};
        int[] unwatched = {1, 1, 0, 1, MILLION, 0, MILLION};
        int[] watched = {1, 1, 1, 1, MILLION, MILLION, 500000};
        int[] mixed = {29, 30, 78, 79, 966666, 987341, 489451};
        isAtRest("W is 0", ditch(1, 39, 29, 50), 0, never);
        isAtRest("WORTH is 0", ditch(2, 0, 30, 50), 0, never);
        isAtRest("100 S is as much", ditch(2, 39, 30, 50), 0, unwatched);
        isAtRest("100 S is more", ditch(2, 39, 31, 50), 0, unwatched);
        isAtRest("nothing is seen", ditch(2, 39, 0, 0), 0, unwatched);
        isAtRest("100 W is as much", ditch(2, 40, 29, 50), 0, watched);
        isAtRest("100 W is more", ditch(2, 41, 29, 50), 0, watched);
        isAtRest("both by chance", ditch(2, 39, 29, 50), 0, mixed);
        isAtRest("the last one meets the first", ditch(2, 39, 29, 50), 1, never);
        NightDitch manned = ditch(2, 39, 29, 40);
        manned.rule(3, 10);
        isAtRest("with a MAN", manned, 0, mixed);
        NightDitch sleepless = ditch(2, 39, 0, 50);
        isAtRest("no MINDS", sleepless, 0, new int[] {0, 1, 78, 79, 0, 987341, 0});
        NightDitch all = ditch(2, 39, 29, 60);
        all.rule(3, 100);
        isAtRest("SEES 100 at most", all, 0, new int[] {29, 60, 39, 79, 483333, 493670, 244725});
        NightDitch swapped = ditch(2, 39, 29, 50);
        swapped.swap(0, 1);
        isAtRest("by places", swapped, 1, mixed);
        isAtRest("by places", swapped, 0, never);
        NightDitch cut = ditch(2, 39, 29, 50);
        cut.rule(0, 41);
        Due.is("G is cut: rest(0, 1)", cut.rest(0, 1), 30);
        Due.is("FINE is not: rest(0, 3)", cut.rest(0, 3), 40);
    }

    private static void restRefused() {
        NightDitch x = new NightDitch();
        Due.refuses(x, "rest(0, 0) without farms", () -> x.rest(0, 0), Due.BEYOND);
        Due.refuses(x, "blame(0) without farms", () -> x.blame(0), Due.BEYOND);
        x.farm(0, 1, 1);
        Due.refuses(x, "rest(0, 0) of one farm", () -> x.rest(0, 0), Due.NONE);
        Due.refuses(x, "rest(0, 7) of one farm", () -> x.rest(0, 7), Due.BEYOND);
        Due.refuses(x, "rest(1, 0) of one farm", () -> x.rest(1, 0), Due.BEYOND);
        x.farm(0, 1, 1);
        Due.refuses(x, "rest(-1, 0)", () -> x.rest(-1, 0), Due.BEYOND);
        Due.refuses(x, "rest(2, 0)", () -> x.rest(2, 0), Due.BEYOND);
        Due.refuses(x, "rest(0, -1)", () -> x.rest(0, -1), Due.BEYOND);
        Due.refuses(x, "rest(0, 7)", () -> x.rest(0, 7), Due.BEYOND);
    }

    private static void lost() {
        NightDitch x = new NightDitch();
        Due.is("lost(-1) without farms", x.lost(-1), 0);
        Due.refuses(x, "lost(0) without farms", () -> x.lost(0), Due.BEYOND);
        x.farm(0, 1, 1);
        Due.is("lost(-1) of one farm", x.lost(-1), 0);
        Due.refuses(x, "lost(0) of one farm", () -> x.lost(0), Due.BEYOND);
        NightDitch y = ditch(2, 39, 29, 50);
        Due.is("lost(0)", y.lost(0), 33527399);
        Due.is("lost(1)", y.lost(1), 0);
        Due.is("lost(-1)", y.lost(-1), 33527399);
        y.farm(2, 1, 1);
        Due.is("lost(1) with a third", y.lost(1), 10000000);
        Due.is("lost(-1) with a third", y.lost(-1), 43527399);
        y.rule(2, 999);
        Due.is("lost(0) with SPILL 999", y.lost(0), 987341L * 29 + 489451L * 999);
        Due.refuses(y, "lost(-2)", () -> y.lost(-2), Due.BEYOND);
        Due.refuses(y, "lost(3)", () -> y.lost(3), Due.BEYOND);
        NightDitch great = new NightDitch();
        for (int i = 0; i < 8; i++) {
            great.farm(2, 1, 999);
        }
        great.rule(2, 999);
        Due.is("lost(-1), more than an int holds", great.lost(-1), 7992000000L);
    }

    private static void least() {
        NightDitch none = new NightDitch();
        Due.is("least(0) without farms", none.least(0), 0);
        NightDitch x = ditch(2, 39, 29, 50);
        Due.is("least(1000000)", x.least(MILLION), 0);
        Due.is("least(999999)", x.least(999999), 40);
        Due.is("least(966666)", x.least(966666), 40);
        Due.is("least(966665)", x.least(966665), 42);
        Due.is("least(500000)", x.least(500000), 152);
        Due.is("least(1159)", x.least(1159), 99922);
        Due.refuses(x, "least(1158)", () -> x.least(1158), Due.NONE);
        Due.refuses(x, "least(0)", () -> x.least(0), Due.NONE);
        Due.refuses(x, "least(-1)", () -> x.least(-1), Due.BEYOND);
        Due.refuses(x, "least(1000001)", () -> x.least(MILLION + 1), Due.BEYOND);
        Due.is("FINE stays", x.rule(0, 40), 40);
        NightDitch sharp = ditch(2, 39, 10, 100);
        sharp.rule(1, 100);
        sharp.set(0, 1, 2);
        Due.is("least(99): the greatest FINE", sharp.least(99), 99999);
        sharp.set(0, 1, 1);
        Due.refuses(sharp, "least(99): 100000 would be enough", () -> sharp.least(99), Due.NONE);
        x.farm(2, 1, 39);
        Due.refuses(x, "least(999999): one that sees nothing", () -> x.least(999999), Due.NONE);
    }

    private static void hire() {
        NightDitch none = new NightDitch();
        Due.is("hire(5) without farms", none.hire(5), 0);
        NightDitch x = ditch(2, 39, 29, 50);
        Due.is("hire(0)", x.hire(0), 0);
        Due.is("hire(1)", x.hire(1), 33527399 - 32870018);
        Due.is("hire(50)", x.hire(50), 33527399 - 16763680);
        Due.is("hire(100)", x.hire(100), 33527399 - 16763680);
        x.rule(3, 100);
        Due.is("hire(100) with MAN 100", x.hire(100), 0);
        x.rule(3, 1);
        Due.is("hire(9) with MAN 1", x.hire(9), 32870018 - 27939496);
        Due.is("MAN stays", x.rule(3, 0), 1);
        NightDitch asleep = ditch(2, 39, 29, 40);
        Due.is("hire(10) of one who watches then", asleep.hire(10), 10000000 - 33527399);
        Due.refuses(x, "hire(-1)", () -> x.hire(-1), Due.BEYOND);
        Due.refuses(x, "hire(101)", () -> x.hire(101), Due.BEYOND);
    }

    private static void breaks() {
        NightDitch none = new NightDitch();
        Due.refuses(none, "breaks(0) without farms", () -> none.breaks(0), Due.NONE);
        NightDitch x = ditch(4, 10, 29, 50);
        Due.is("breaks(0)", x.breaks(0), 1);
        Due.is("breaks(966665)", x.breaks(966665), 1);
        Due.is("breaks(966666)", x.breaks(966666), 4);
        Due.is("breaks(999999)", x.breaks(999999), 4);
        x.dry(7);
        Due.is("breaks(999999) when it is dry", x.breaks(999999), 4);
        Due.is("breaks(966665) when it is dry", x.breaks(966665), 1);
        Due.is("DRY stays", x.dry(1), 7);
        Due.refuses(x, "breaks(1000000)", () -> x.breaks(MILLION), Due.NONE);
        Due.refuses(x, "breaks(-1)", () -> x.breaks(-1), Due.BEYOND);
        Due.refuses(x, "breaks(1000001)", () -> x.breaks(MILLION + 1), Due.BEYOND);
        NightDitch told = ditch(2, 10, 29, 50);
        Due.is("the text", Due.say(told, "(d<9?100:0)"), 0);
        Due.is("breaks(966665) by the text", told.breaks(966665), 1);
        Due.is("the other text", Due.say(told, "(d<9?0:100)"), 0);
        Due.is("breaks(0) by the text", told.breaks(0), 9);
    }

    private static void blame() {
        NightDitch x = ditch(2, 39, 29, 50);
        Due.is("blame(0) without a LEAK", x.blame(0), MILLION);
        Due.is("blame(1) without a LEAK", x.blame(1), 0);
        x.rule(4, 100);
        Due.is("blame(0)", x.blame(0), (int) (489451L * MILLION / 1489451));
        Due.is("blame(1)", x.blame(1), 0);
        x.set(0, 3, 0);
        Due.is("blame(0) of all that is taken", x.blame(0), 500000);
        Due.refuses(x, "blame(-1)", () -> x.blame(-1), Due.BEYOND);
        Due.refuses(x, "blame(2)", () -> x.blame(2), Due.BEYOND);
        NightDitch one = new NightDitch();
        one.farm(2, 1, 1);
        Due.refuses(one, "blame(0) of one farm", () -> one.blame(0), Due.NONE);
        Due.refuses(one, "blame(1) of one farm", () -> one.blame(1), Due.BEYOND);
    }

    private static void always() {
        NightDitch x = new NightDitch();
        Due.is("always() without farms", x.always(), 0);
        x.farm(2, 1, 1);
        Due.is("always() of one farm", x.always(), 0);
        NightDitch y = ditch(2, 39, 29, 50);
        Due.is("always(): by chance", y.always(), 0);
        y.set(0, 2, 30);
        Due.is("always(): unwatched", y.always(), 2);
        y.set(0, 2, 29);
        y.set(1, 1, 40);
        Due.is("always(): watched", y.always(), 2);
        NightDitch z = new NightDitch();
        for (int i = 0; i < 8; i++) {
            z.farm(2, 1, 1);
        }
        Due.is("always(): all", z.always(), 255);
        z.set(3, 1, 0);
        z.swap(3, 6);
        Due.is("always(): all but one", z.always(), 247);
    }
}
