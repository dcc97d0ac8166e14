/** Promises 15 to 21: rest, lost, least, hire, breaks, blame, always. */
public final class RestTest {
    private static final int MILLION = 1000000;
    private static final int[] NEVER = {0, 1, 0, 1, 0, 0, 0};
    private static final int[] UNWATCHED = {1, 1, 0, 1, MILLION, 0, MILLION};
    private static final int[] BY_CHANCE = {29, 30, 78, 79, 966666, 987341, 489451};

    public static void main(String[] args) throws ReflectiveOperationException {
        Due.run(RestTest.class, 15, 21);
        Due.end();
    }

    /** FARM 0 (HONEST, so that it takes nothing) is met by FARM 1, of a told kind and WORTH; G is 20. */
    private static NightDitch ditch(int kind, int worth, int sleep, int sees) {
        NightDitch x = new NightDitch();
        x.farm(1, 1, 40);
        x.farm(kind, 1, worth);
        x.set(0, 2, sleep);
        x.set(0, 3, sees);
        x.rule(0, 40);
        return x;
    }

    private static NightDitch byChance() {
        return ditch(2, 39, 29, 50);
    }

    private static NightDitch one() {
        NightDitch x = new NightDitch();
        x.farm(2, 1, 999);
        return x;
    }

    /** All GAIN, of WORTH 999, and none sees anything. */
    private static NightDitch full() {
        NightDitch x = new NightDitch();
        for (int i = 0; i < 8; i++) {
            x.farm(2, 1, 999);
        }
        return x;
    }

    private static void isAtRest(NightDitch x, int place, int... due) {
        for (int what = 0; what < due.length; what++) {
            Due.is("rest(" + place + ", " + what + ")", x.rest(place, what), due[what]);
        }
    }

    // ---- promise 15: rest

    static void promise15PlaceTooSmall() {
        Due.refuses(RestTest::byChance, "rest(-1, 0)", x -> x.rest(-1, 0), Due.BEYOND);
        Due.refuses(RestTest::byChance, "rest(MIN, 0)", x -> x.rest(Due.MIN, 0), Due.BEYOND);
    }

    static void promise15PlaceTooLarge() {
        Due.refuses(RestTest::byChance, "rest(2, 0)", x -> x.rest(2, 0), Due.BEYOND);
        Due.refuses(RestTest::full, "rest(8, 0)", x -> x.rest(8, 0), Due.BEYOND);
        Due.refuses(RestTest::byChance, "rest(MAX, 0)", x -> x.rest(Due.MAX, 0), Due.BEYOND);
    }

    static void promise15WhatTooSmall() {
        Due.refuses(RestTest::byChance, "rest(0, -1)", x -> x.rest(0, -1), Due.BEYOND);
        Due.refuses(RestTest::byChance, "rest(0, MIN)", x -> x.rest(0, Due.MIN), Due.BEYOND);
    }

    static void promise15WhatTooLarge() {
        Due.refuses(RestTest::byChance, "rest(0, 7)", x -> x.rest(0, 7), Due.BEYOND);
        Due.refuses(RestTest::byChance, "rest(0, MAX)", x -> x.rest(0, Due.MAX), Due.BEYOND);
    }

    static void promise15OneFarmIsNone() {
        for (int what = 0; what < 7; what++) {
            int which = what;
            Due.refuses(RestTest::one, "rest(0, " + what + ")", x -> x.rest(0, which), Due.NONE);
        }
    }

    static void promise15NoFarmsIsBeyond() {
        Due.refuses(NightDitch::new, "rest(0, 0)", x -> x.rest(0, 0), Due.BEYOND);
    }

    static void promise15BeyondIsAskedBeforeNone() {
        Due.refuses(RestTest::one, "rest(1, 0)", x -> x.rest(1, 0), Due.BEYOND);
        Due.refuses(RestTest::one, "rest(-1, 0)", x -> x.rest(-1, 0), Due.BEYOND);
        Due.refuses(RestTest::one, "rest(0, 7)", x -> x.rest(0, 7), Due.BEYOND);
        Due.refuses(RestTest::one, "rest(0, -1)", x -> x.rest(0, -1), Due.BEYOND);
    }

    static void promise15BehindTheLastComesTheFirst() {
        NightDitch x = ditch(2, 39, 29, 50);
        x.swap(0, 1);
        isAtRest(x, 1, BY_CHANCE);
        isAtRest(x, 0, NEVER);
        NightDitch y = full();
        y.set(0, 1, 0);
        isAtRest(y, 7, NEVER);
        isAtRest(y, 0, UNWATCHED);
        isAtRest(y, 6, UNWATCHED);
    }

    static void promise15TwoFarmsMeetEachOther() {
        isAtRest(byChance(), 0, BY_CHANCE);
        isAtRest(byChance(), 1, NEVER);
    }

    static void promise15NeverIfWIs0() {
        isAtRest(ditch(1, 39, 29, 50), 0, NEVER);
        isAtRest(ditch(2, 0, 29, 50), 0, NEVER);
        isAtRest(ditch(5, 39, 29, 50), 0, NEVER);
    }

    static void promise15WIs0IsAskedBeforeSleep() {
        isAtRest(ditch(1, 39, 999, 50), 0, NEVER);
        isAtRest(ditch(2, 0, 0, 0), 0, NEVER);
        NightDitch free = ditch(2, 0, 0, 50);
        free.rule(0, 0);
        isAtRest(free, 0, NEVER);
    }

    static void promise15UnwatchedIfSleepIsAsMuch() {
        isAtRest(ditch(2, 39, 30, 50), 0, UNWATCHED);
        isAtRest(ditch(2, 39, 31, 50), 0, UNWATCHED);
        isAtRest(ditch(2, 39, 29, 50), 0, BY_CHANCE);
    }

    static void promise15UnwatchedIfNothingIsSeen() {
        isAtRest(ditch(2, 39, 0, 0), 0, UNWATCHED);
        isAtRest(ditch(2, 39, 999, 0), 0, UNWATCHED);
    }

    static void promise15UnwatchedIfThereIsNothingToSave() {
        NightDitch x = ditch(2, 39, 0, 100);
        x.set(0, 1, 0);
        x.rule(1, 0);
        isAtRest(x, 0, UNWATCHED);
    }

    static void promise15SleepIsAskedBeforeWants() {
        isAtRest(ditch(2, 999, 30, 50), 0, UNWATCHED);
    }

    static void promise15WatchedIfWantsIsAsMuch() {
        isAtRest(ditch(2, 40, 29, 50), 0, 1, 1, 1, 1, MILLION, MILLION, 500000);
        isAtRest(ditch(2, 41, 29, 50), 0, 1, 1, 1, 1, MILLION, MILLION, 500000);
        isAtRest(ditch(2, 39, 29, 50), 0, BY_CHANCE);
    }

    static void promise15WatchedIfThereIsNoFine() {
        NightDitch x = ditch(2, 1, 29, 100);
        x.rule(0, 0);
        isAtRest(x, 0, 1, 1, 1, 1, MILLION, MILLION, 0);
    }

    static void promise15NoChanceWithoutMinds() {
        isAtRest(ditch(2, 39, 0, 50), 0, 0, 1, 78, 79, 0, 987341, 0);
    }

    static void promise15ManMakesSees100AtMost() {
        int[] due = {29, 60, 39, 79, 483333, 493670, 244725};
        int[] sees = {60, 60, 0, 99, 100, 1};
        int[] man = {40, 100, 100, 1, 1, 99};
        for (int i = 0; i < sees.length; i++) {
            NightDitch x = ditch(2, 39, 29, sees[i]);
            x.rule(3, man[i]);
            isAtRest(x, 0, due);
        }
    }

    static void promise15ManIsSoMuchMore() {
        NightDitch x = ditch(2, 39, 29, 40);
        x.rule(3, 10);
        isAtRest(x, 0, BY_CHANCE);
        NightDitch y = ditch(2, 39, 29, 0);
        y.rule(3, 50);
        isAtRest(y, 0, BY_CHANCE);
    }

    static void promise15GIsCut() {
        NightDitch x = ditch(2, 39, 29, 50);
        x.rule(0, 41);
        isAtRest(x, 0, 29, 30, 39, 40);
        x.rule(0, 42);
        isAtRest(x, 0, 58, 61, 26, 27);
    }

    static void promise15GivesNothingAndAll() {
        NightDitch x = ditch(2, 39, 19, 50);
        x.rule(1, 0);
        isAtRest(x, 0, 19, 20);
        x.rule(1, 100);
        isAtRest(x, 0, 19, 40);
    }

    static void promise15LowestTerms() {
        NightDitch x = ditch(2, 30, 12, 100);
        isAtRest(x, 0, 1, 5, 3, 7, 200000, 428571);
    }

    static void promise15GreatestNumbers() {
        NightDitch x = ditch(4, 999, 999, 100);
        x.set(0, 1, 999);
        x.dry(9);
        x.rule(0, 99999);
        x.rule(1, 100);
        Due.say(x, "9999*9999");
        isAtRest(x, 0, 111, 22222, 9, 10, 4995, 900000, 499);
    }

    static void promise15MillionthsAreCut() {
        isAtRest(byChance(), 0, BY_CHANCE);
        NightDitch x = ditch(2, 1, 1, 1);
        x.set(0, 1, 999);
        x.rule(0, 99999);
        x.rule(1, 100);
        // 100 by 100998, and 1 by 1000.
        isAtRest(x, 0, 50, 50499, 1, 1000, 990, 1000, 989);
    }

    // ---- promise 16: lost

    static void promise16PlaceTooSmall() {
        Due.refuses(RestTest::byChance, "lost(-2)", x -> x.lost(-2), Due.BEYOND);
        Due.refuses(RestTest::byChance, "lost(MIN)", x -> x.lost(Due.MIN), Due.BEYOND);
    }

    static void promise16PlaceTooLarge() {
        Due.refuses(RestTest::byChance, "lost(2)", x -> x.lost(2), Due.BEYOND);
        Due.refuses(RestTest::full, "lost(8)", x -> x.lost(8), Due.BEYOND);
        Due.refuses(RestTest::byChance, "lost(MAX)", x -> x.lost(Due.MAX), Due.BEYOND);
    }

    static void promise16NoMeetWithFewerThanTwoFarms() {
        Due.refuses(NightDitch::new, "lost(0)", x -> x.lost(0), Due.BEYOND);
        Due.refuses(RestTest::one, "lost(0)", x -> x.lost(0), Due.BEYOND);
    }

    static void promise16TurnsOfFewerThanTwoFarmsLoseNothing() {
        Due.is("lost(-1) without farms", new NightDitch().lost(-1), 0);
        Due.is("lost(-1) of one farm", one().lost(-1), 0);
    }

    static void promise16AllMeets() {
        NightDitch x = byChance();
        Due.is("lost(0)", x.lost(0), 33527399);
        Due.is("lost(1)", x.lost(1), 0);
        Due.is("lost(-1)", x.lost(-1), 33527399);
        x.farm(2, 1, 1);
        Due.is("lost(0) with a third", x.lost(0), 33527399);
        Due.is("lost(1) with a third", x.lost(1), 10000000);
        Due.is("lost(2) with a third", x.lost(2), 0);
        Due.is("lost(-1) with a third", x.lost(-1), 43527399);
    }

    static void promise16SpillOfNothingAndMost() {
        NightDitch x = byChance();
        x.rule(2, 0);
        Due.is("lost(0) with SPILL 0", x.lost(0), 987341L * 29);
        x.rule(2, 999);
        Due.is("lost(0) with SPILL 999", x.lost(0), 987341L * 29 + 489451L * 999);
    }

    static void promise16MoreThanAnIntHolds() {
        NightDitch x = full();
        x.rule(2, 999);
        Due.is("lost(7)", x.lost(7), 999000000L);
        Due.is("lost(-1)", x.lost(-1), 7992000000L);
    }

    // ---- promise 17: least

    static void promise17TooSmall() {
        Due.refuses(RestTest::byChance, "least(-1)", x -> x.least(-1), Due.BEYOND);
        Due.refuses(RestTest::byChance, "least(MIN)", x -> x.least(Due.MIN), Due.BEYOND);
    }

    static void promise17TooLarge() {
        Due.refuses(RestTest::byChance, "least(1000001)", x -> x.least(MILLION + 1), Due.BEYOND);
        Due.refuses(RestTest::byChance, "least(MAX)", x -> x.least(Due.MAX), Due.BEYOND);
    }

    static void promise17BeyondIsAskedBeforeNone() {
        Due.refuses(RestTest::full, "least(-1)", x -> x.least(-1), Due.BEYOND);
        Due.refuses(RestTest::full, "least(1000001)", x -> x.least(MILLION + 1), Due.BEYOND);
    }

    static void promise17FewerThanTwoFarmsNeedNone() {
        Due.is("least(0) without farms", new NightDitch().least(0), 0);
        Due.is("least(0) of one farm", one().least(0), 0);
    }

    static void promise17FineOf0() {
        Due.is("least(1000000)", byChance().least(MILLION), 0);
        Due.is("least(1000000) of eight that take always", full().least(MILLION), 0);
        Due.is("least(0) of who never takes", ditch(1, 39, 29, 50).least(0), 0);
    }

    static void promise17FineOf1() {
        // FINE 0 lets it take always; with 1 it takes as often as nobody minds to lose sleep.
        Due.is("least(0)", ditch(2, 39, 0, 100).least(0), 1);
    }

    static void promise17JustAsMuchIsEnough() {
        NightDitch x = byChance();
        Due.is("least(999999)", x.least(999999), 40);
        Due.is("least(966666)", x.least(966666), 40);
        Due.is("least(966665)", x.least(966665), 42);
        Due.is("least(500000)", x.least(500000), 152);
        Due.is("least(1159)", x.least(1159), 99922);
    }

    static void promise17FineOf99999() {
        NightDitch x = ditch(2, 39, 10, 100);
        x.rule(1, 100);
        x.set(0, 1, 2);
        Due.is("least(99)", x.least(99), 99999);
    }

    static void promise17NoneIf100000WouldBeEnough() {
        Due.refuses(() -> {
            NightDitch x = ditch(2, 39, 10, 100);
            x.rule(1, 100);
            x.set(0, 1, 1);
            return x;
        }, "least(99)", x -> x.least(99), Due.NONE);
    }

    static void promise17NoneIfNoFineIsEnough() {
        Due.refuses(RestTest::byChance, "least(1158)", x -> x.least(1158), Due.NONE);
        Due.refuses(RestTest::byChance, "least(0)", x -> x.least(0), Due.NONE);
        Due.refuses(RestTest::full, "least(999999)", x -> x.least(999999), Due.NONE);
    }

    static void promise17AllPNotOnlyOne() {
        NightDitch x = byChance();
        x.farm(2, 1, 39);
        Due.is("least(999999) with one that sees nothing", x.least(999999), Due.NONE);
        x.set(1, 2, 29);
        x.set(1, 3, 50);
        // FARM 2 takes from FARM 1: of 39 and G, 58 is to be had.
        Due.is("least(999999)", x.least(999999), 40);
        x.set(1, 3, 30);
        Due.is("least(999999) with one that sees less", x.least(999999), 116);
    }

    static void promise17FineStays() {
        NightDitch x = byChance();
        String before = Due.look(x);
        x.least(500000);
        Due.holds("that all is as it was", Due.look(x).equals(before));
    }

    // ---- promise 18: hire

    static void promise18TooSmall() {
        Due.refuses(RestTest::byChance, "hire(-1)", x -> x.hire(-1), Due.BEYOND);
        Due.refuses(RestTest::byChance, "hire(MIN)", x -> x.hire(Due.MIN), Due.BEYOND);
    }

    static void promise18TooLarge() {
        Due.refuses(RestTest::byChance, "hire(101)", x -> x.hire(101), Due.BEYOND);
        Due.refuses(RestTest::byChance, "hire(MAX)", x -> x.hire(Due.MAX), Due.BEYOND);
    }

    static void promise18FewerThanTwoFarms() {
        Due.is("hire(5) without farms", new NightDitch().hire(5), 0);
        Due.is("hire(100) of one farm", one().hire(100), 0);
    }

    static void promise18NoMore() {
        Due.is("hire(0)", byChance().hire(0), 0);
        Due.is("hire(0) of eight", full().hire(0), 0);
    }

    static void promise18OneMore() {
        Due.is("hire(1)", byChance().hire(1), 33527399 - 32870018);
    }

    static void promise18SeesAre100AtMost() {
        Due.is("hire(50)", byChance().hire(50), 33527399 - 16763680);
        Due.is("hire(51)", byChance().hire(51), 33527399 - 16763680);
        Due.is("hire(100)", byChance().hire(100), 33527399 - 16763680);
    }

    static void promise18ManAndMoreMayBeOver100() {
        NightDitch x = byChance();
        x.rule(3, 100);
        Due.is("hire(100) with MAN 100", x.hire(100), 0);
        x.rule(3, 1);
        Due.is("hire(9) with MAN 1", x.hire(9), 32870018 - 27939496);
        Due.is("hire(100) with MAN 1", x.hire(100), 32870018 - 16763680);
    }

    static void promise18MoreIsLostByOneWhoWatchesThen() {
        Due.is("hire(10)", ditch(2, 39, 29, 40).hire(10), 10000000 - 33527399);
    }

    static void promise18MoreThanAnIntHolds() {
        NightDitch x = full();
        x.rule(2, 999);
        Due.is("hire(100) of who minds nothing", x.hire(100), 7992000000L);
        x.rule(0, 2000);
        x.rule(1, 100);
        x.rule(2, 0);
        for (int farm = 0; farm < 8; farm++) {
            x.set(farm, 2, 999);
        }
        Due.is("hire(100) of who sleeps now", x.hire(100), -8L * 333111 * 999);
    }

    static void promise18ManStays() {
        NightDitch x = byChance();
        String before = Due.look(x);
        x.hire(100);
        Due.holds("that all is as it was", Due.look(x).equals(before));
    }

    // ---- promise 19: breaks

    /** A TAIL that takes always from a DRY on at which its WANTS are as much as FINE. */
    private static NightDitch tail(int worth, int fine) {
        NightDitch x = ditch(4, worth, 29, 50);
        x.rule(0, fine);
        return x;
    }

    static void promise19TooSmall() {
        Due.refuses(RestTest::byChance, "breaks(-1)", x -> x.breaks(-1), Due.BEYOND);
        Due.refuses(RestTest::byChance, "breaks(MIN)", x -> x.breaks(Due.MIN), Due.BEYOND);
    }

    static void promise19TooLarge() {
        Due.refuses(RestTest::byChance, "breaks(1000001)", x -> x.breaks(MILLION + 1), Due.BEYOND);
        Due.refuses(RestTest::byChance, "breaks(MAX)", x -> x.breaks(Due.MAX), Due.BEYOND);
    }

    static void promise19BeyondIsAskedBeforeNone() {
        Due.refuses(NightDitch::new, "breaks(-1)", x -> x.breaks(-1), Due.BEYOND);
        Due.refuses(NightDitch::new, "breaks(1000001)", x -> x.breaks(MILLION + 1), Due.BEYOND);
    }

    static void promise19FewerThanTwoFarmsIsNone() {
        Due.refuses(NightDitch::new, "breaks(0)", x -> x.breaks(0), Due.NONE);
        Due.refuses(RestTest::one, "breaks(0)", x -> x.breaks(0), Due.NONE);
    }

    static void promise19NoneIsMoreThanAMillion() {
        Due.refuses(RestTest::full, "breaks(1000000)", x -> x.breaks(MILLION), Due.NONE);
        Due.is("breaks(999999)", full().breaks(999999), 1);
    }

    static void promise19NoneIfNobodyTakes() {
        Due.refuses(() -> ditch(1, 39, 29, 50), "breaks(0)", x -> x.breaks(0), Due.NONE);
    }

    static void promise19JustAsMuchIsNotMore() {
        NightDitch x = tail(10, 40);
        Due.is("breaks(0)", x.breaks(0), 1);
        Due.is("breaks(966665)", x.breaks(966665), 1);
        Due.is("breaks(966666)", x.breaks(966666), 4);
        Due.is("breaks(999999)", x.breaks(999999), 4);
    }

    static void promise19DryOf9() {
        Due.is("breaks(999999)", tail(5, 45).breaks(999999), 9);
        Due.is("breaks(999999) of one that needs 8", tail(5, 40).breaks(999999), 8);
    }

    static void promise19NoneIfDry10WouldBreak() {
        Due.refuses(() -> tail(4, 40), "breaks(999999)", x -> x.breaks(999999), Due.NONE);
    }

    static void promise19FromDry1WhateverItIsNow() {
        NightDitch x = tail(10, 40);
        x.dry(7);
        Due.is("breaks(999999)", x.breaks(999999), 4);
        Due.is("breaks(966665)", x.breaks(966665), 1);
    }

    static void promise19DryByTheText() {
        NightDitch x = ditch(2, 10, 29, 50);
        Due.is("the text", Due.say(x, "(d<9?100:0)"), 0);
        Due.is("breaks(966665)", x.breaks(966665), 1);
        Due.is("the other text", Due.say(x, "(d<9?0:100)"), 0);
        Due.is("breaks(0)", x.breaks(0), 9);
        Due.is("a text for one DRY", Due.say(x, "(d<5?0:(5<d?0:100))"), 0);
        Due.is("breaks(0)", x.breaks(0), 5);
    }

    static void promise19SomePIsEnough() {
        NightDitch x = tail(10, 40);
        x.farm(2, 1, 39);
        Due.is("breaks(999999)", x.breaks(999999), 1);
    }

    static void promise19DryStays() {
        NightDitch x = tail(10, 40);
        x.dry(3);
        String before = Due.look(x);
        x.breaks(999999);
        Due.holds("that all is as it was", Due.look(x).equals(before));
    }

    // ---- promise 20: blame

    static void promise20PlaceTooSmall() {
        Due.refuses(RestTest::byChance, "blame(-1)", x -> x.blame(-1), Due.BEYOND);
        Due.refuses(RestTest::byChance, "blame(MIN)", x -> x.blame(Due.MIN), Due.BEYOND);
    }

    static void promise20PlaceTooLarge() {
        Due.refuses(RestTest::byChance, "blame(2)", x -> x.blame(2), Due.BEYOND);
        Due.refuses(RestTest::full, "blame(8)", x -> x.blame(8), Due.BEYOND);
    }

    static void promise20OneFarmIsNone() {
        Due.refuses(RestTest::one, "blame(0)", x -> x.blame(0), Due.NONE);
    }

    static void promise20NoFarmsIsBeyond() {
        Due.refuses(NightDitch::new, "blame(0)", x -> x.blame(0), Due.BEYOND);
    }

    static void promise20BeyondIsAskedBeforeNone() {
        Due.refuses(RestTest::one, "blame(1)", x -> x.blame(1), Due.BEYOND);
        Due.refuses(RestTest::one, "blame(-1)", x -> x.blame(-1), Due.BEYOND);
    }

    static void promise20NothingOpenAndNoLeak() {
        Due.is("blame(1)", byChance().blame(1), 0);
    }

    static void promise20OnlyALeak() {
        NightDitch x = byChance();
        x.rule(4, 1);
        Due.is("blame(1)", x.blame(1), 0);
    }

    static void promise20OnlyOpen() {
        Due.is("blame(0)", byChance().blame(0), MILLION);
    }

    static void promise20BothAreCut() {
        NightDitch x = byChance();
        x.rule(4, 1);
        Due.is("blame(0) with LEAK 1", x.blame(0), 979978);
        x.rule(4, 100);
        Due.is("blame(0) with LEAK 100", x.blame(0), 328611);
        x.set(0, 3, 0);
        Due.is("blame(0) of all that is taken", x.blame(0), 500000);
    }

    // ---- promise 21: always

    static void promise21FewerThanTwoFarms() {
        Due.is("always() without farms", new NightDitch().always(), 0);
        Due.is("always() of one farm", one().always(), 0);
    }

    static void promise21NotByChance() {
        Due.is("always()", byChance().always(), 0);
        NightDitch x = ditch(2, 999, 999, 1);
        x.rule(0, 99900);
        x.rule(1, 100);
        x.set(0, 1, 1);
        Due.is("P of 99900 by 99901", x.rest(0, 4), 999989);
        Due.is("always()", x.always(), 0);
        x.set(0, 1, 0);
        Due.is("always() of 99900 by as much", x.always(), 2);
    }

    static void promise21Unwatched() {
        Due.is("always()", ditch(2, 39, 30, 50).always(), 2);
    }

    static void promise21Watched() {
        Due.is("always()", ditch(2, 40, 29, 50).always(), 2);
    }

    static void promise21All() {
        Due.is("always()", full().always(), 255);
    }

    static void promise21FarmsNotPlaces() {
        NightDitch x = full();
        x.set(3, 1, 0);
        x.swap(3, 6);
        Due.is("always()", x.always(), 247);
    }
}
