import java.util.Random;

/** Promises 9 to 14: turn, swap, turns, told, best, share. */
public final class TurnsTest {
    public static void main(String[] args) throws ReflectiveOperationException {
        Due.run(TurnsTest.class, 9, 14);
        Due.end();
    }

    private static NightDitch farms(int count) {
        NightDitch x = new NightDitch();
        for (int i = 0; i < count; i++) {
            x.farm(i % 6, 1 + i, 10 * i);
        }
        return x;
    }

    private static NightDitch one() {
        return farms(1);
    }

    /** By turns 2, 0, 1. */
    private static NightDitch three() {
        NightDitch x = farms(3);
        Due.is("turns(0201)", x.turns(0201), 1);
        return x;
    }

    private static NightDitch full() {
        return farms(8);
    }

    private static void isTurns(NightDitch x, int... due) {
        for (int place = 0; place < due.length; place++) {
            Due.is("turn(" + place + ")", x.turn(place), due[place]);
            Due.is("of(" + due[place] + ", 10)", x.of(due[place], 10), place);
        }
    }

    // ---- promise 9: turn

    static void promise9PlaceTooSmall() {
        Due.refuses(TurnsTest::three, "turn(-1)", x -> x.turn(-1), Due.BEYOND);
        Due.refuses(TurnsTest::three, "turn(MIN)", x -> x.turn(Due.MIN), Due.BEYOND);
    }

    static void promise9PlaceTooLarge() {
        Due.refuses(TurnsTest::three, "turn(3)", x -> x.turn(3), Due.BEYOND);
        Due.refuses(TurnsTest::full, "turn(8)", x -> x.turn(8), Due.BEYOND);
        Due.refuses(TurnsTest::three, "turn(MAX)", x -> x.turn(Due.MAX), Due.BEYOND);
    }

    static void promise9NoFarms() {
        Due.refuses(NightDitch::new, "turn(0)", x -> x.turn(0), Due.BEYOND);
    }

    static void promise9ByNumbersAtFirst() {
        isTurns(full(), 0, 1, 2, 3, 4, 5, 6, 7);
    }

    static void promise9ByTheOrderThen() {
        isTurns(three(), 2, 0, 1);
    }

    // ---- promise 10: swap

    static void promise10FirstTooSmall() {
        Due.refuses(TurnsTest::three, "swap(-1, 0)", x -> x.swap(-1, 0), Due.BEYOND);
        Due.refuses(TurnsTest::three, "swap(MIN, 0)", x -> x.swap(Due.MIN, 0), Due.BEYOND);
    }

    static void promise10FirstTooLarge() {
        Due.refuses(TurnsTest::three, "swap(3, 0)", x -> x.swap(3, 0), Due.BEYOND);
        Due.refuses(TurnsTest::full, "swap(8, 0)", x -> x.swap(8, 0), Due.BEYOND);
    }

    static void promise10SecondTooSmall() {
        Due.refuses(TurnsTest::three, "swap(0, -1)", x -> x.swap(0, -1), Due.BEYOND);
        Due.refuses(TurnsTest::three, "swap(0, MIN)", x -> x.swap(0, Due.MIN), Due.BEYOND);
    }

    static void promise10SecondTooLarge() {
        Due.refuses(TurnsTest::three, "swap(0, 3)", x -> x.swap(0, 3), Due.BEYOND);
        Due.refuses(TurnsTest::full, "swap(0, 8)", x -> x.swap(0, 8), Due.BEYOND);
    }

    static void promise10NoFarms() {
        Due.refuses(NightDitch::new, "swap(0, 0)", x -> x.swap(0, 0), Due.BEYOND);
    }

    static void promise10TellsWhoStandsInTheFirstThen() {
        NightDitch x = three();
        Due.is("swap(0, 2)", x.swap(0, 2), 1);
        isTurns(x, 1, 0, 2);
        Due.is("swap(2, 1)", x.swap(2, 1), 0);
        isTurns(x, 1, 2, 0);
    }

    static void promise10FirstAndLastPlace() {
        NightDitch x = full();
        Due.is("swap(7, 0)", x.swap(7, 0), 0);
        isTurns(x, 7, 1, 2, 3, 4, 5, 6, 0);
    }

    static void promise10OnePlaceWithItself() {
        NightDitch x = three();
        Due.is("swap(1, 1)", x.swap(1, 1), 0);
        isTurns(x, 2, 0, 1);
        Due.is("swap(0, 0) of one FARM", one().swap(0, 0), 0);
    }

    // ---- promise 11: turns

    static void promise11Below0() {
        Due.refuses(TurnsTest::three, "turns(-1)", x -> x.turns(-1), Due.BEYOND);
        Due.refuses(TurnsTest::three, "turns(MIN)", x -> x.turns(Due.MIN), Due.BEYOND);
        Due.refuses(NightDitch::new, "turns(-1)", x -> x.turns(-1), Due.BEYOND);
    }

    static void promise11TooGreat() {
        Due.refuses(NightDitch::new, "turns(1)", x -> x.turns(1), Due.BEYOND);
        Due.refuses(TurnsTest::one, "turns(010)", x -> x.turns(010), Due.BEYOND);
        Due.refuses(TurnsTest::three, "turns(01000)", x -> x.turns(01000), Due.BEYOND);
        Due.refuses(TurnsTest::three, "turns(01012)", x -> x.turns(01012), Due.BEYOND);
        Due.refuses(TurnsTest::full, "turns(0100000000)", x -> x.turns(0100000000), Due.BEYOND);
        Due.refuses(TurnsTest::full, "turns(MAX)", x -> x.turns(Due.MAX), Due.BEYOND);
    }

    static void promise11GreatestIsNotTooGreat() {
        Due.refuses(TurnsTest::one, "turns(7)", x -> x.turns(7), Due.KIND);
        Due.refuses(TurnsTest::three, "turns(0777)", x -> x.turns(0777), Due.KIND);
        Due.refuses(TurnsTest::full, "turns(077777777)", x -> x.turns(077777777), Due.KIND);
    }

    static void promise11FarmToldTwice() {
        Due.refuses(TurnsTest::three, "turns(0112)", x -> x.turns(0112), Due.KIND);
        Due.refuses(TurnsTest::three, "turns(0)", x -> x.turns(0), Due.KIND);
        Due.refuses(TurnsTest::full, "turns(01234566)", x -> x.turns(01234566), Due.KIND);
    }

    static void promise11FarmThatThereIsNot() {
        Due.refuses(TurnsTest::three, "turns(0013)", x -> x.turns(0013), Due.KIND);
        Due.refuses(TurnsTest::three, "turns(0712)", x -> x.turns(0712), Due.KIND);
        Due.refuses(TurnsTest::one, "turns(1)", x -> x.turns(1), Due.KIND);
    }

    static void promise11NoFarms() {
        Due.is("turns(0)", new NightDitch().turns(0), 1);
    }

    static void promise11FirstFarmIsTheHighestDigit() {
        isTurns(three(), 2, 0, 1);
        NightDitch x = full();
        Due.is("turns(076543210)", x.turns(076543210), 1);
        isTurns(x, 7, 6, 5, 4, 3, 2, 1, 0);
    }

    static void promise11Farm0InFront() {
        NightDitch x = three();
        Due.is("turns(0021)", x.turns(0021), 1);
        isTurns(x, 0, 2, 1);
    }

    // ---- promise 12: told

    static void promise12NoFarms() {
        Due.refuses(NightDitch::new, "told()", x -> x.told(), Due.NONE);
    }

    static void promise12AsManyDigitsAsFarms() {
        int[] due = {0, 01, 012, 0123, 01234, 012345, 0123456, 01234567};
        NightDitch x = new NightDitch();
        for (int i = 0; i < 8; i++) {
            x.farm(0, 1, 1);
            Due.is("told()", x.told(), due[i]);
        }
    }

    static void promise12TellsWhatTurnsTakes() {
        Due.is("told()", three().told(), 0201);
        NightDitch x = full();
        x.turns(076543210);
        Due.is("told()", x.told(), 076543210);
    }

    // ---- promise 13: best

    static void promise13WhatTooSmall() {
        Due.refuses(TurnsTest::three, "best(-1)", x -> x.best(-1), Due.BEYOND);
        Due.refuses(TurnsTest::three, "best(MIN)", x -> x.best(Due.MIN), Due.BEYOND);
    }

    static void promise13WhatTooLarge() {
        Due.refuses(TurnsTest::three, "best(2)", x -> x.best(2), Due.BEYOND);
        Due.refuses(TurnsTest::three, "best(MAX)", x -> x.best(Due.MAX), Due.BEYOND);
    }

    static void promise13FewerThanTwoFarms() {
        Due.refuses(NightDitch::new, "best(0)", x -> x.best(0), Due.NONE);
        Due.refuses(NightDitch::new, "best(1)", x -> x.best(1), Due.NONE);
        Due.refuses(TurnsTest::one, "best(0)", x -> x.best(0), Due.NONE);
        Due.refuses(TurnsTest::one, "best(1)", x -> x.best(1), Due.NONE);
    }

    static void promise13MoreThanSevenFarms() {
        Due.refuses(TurnsTest::full, "best(0)", x -> x.best(0), Due.NONE);
        Due.refuses(TurnsTest::full, "best(1)", x -> x.best(1), Due.NONE);
    }

    static void promise13BeyondIsAskedBeforeNone() {
        Due.refuses(NightDitch::new, "best(2)", x -> x.best(2), Due.BEYOND);
        Due.refuses(TurnsTest::one, "best(-1)", x -> x.best(-1), Due.BEYOND);
        Due.refuses(TurnsTest::full, "best(2)", x -> x.best(2), Due.BEYOND);
    }

    /** Nobody sees anything: each TAKER with WANTS takes always, and SPILL is lost by it. */
    static void promise13TwoFarms() {
        NightDitch x = new NightDitch();
        x.farm(0, 1, 1);
        x.farm(0, 1, 1);
        Due.is("best(0)", x.best(0), 01);
        Due.is("best(1)", x.best(1), 20000000);
    }

    static void promise13SevenFarms() {
        NightDitch x = farms(7);
        // KINDS 1 and 5 want nothing, and FARM 0 has no WORTH.
        Due.is("best(0)", x.best(0), 00123456);
        Due.is("best(1)", x.best(1), 40000000);
    }

    static void promise13FirstByNumbersOfSeveral() {
        NightDitch x = farms(4);
        x.turns(03210);
        for (int farm = 0; farm < 4; farm++) {
            x.set(farm, 1, 0);
        }
        Due.is("best(1)", x.best(1), 0);
        Due.is("best(0)", x.best(0), 00123);
        NightDitch y = new NightDitch();
        y.farm(2, 1, 100);
        y.farm(1, 1, 100);
        y.farm(2, 1, 100);
        Due.is("best(1) of two that take always", y.best(1), 20000000);
        Due.is("best(0) of two that take always", y.best(0), 0012);
    }

    /** What a place is worth counts where THE TEXT asks for it. */
    static void promise13ByThePlacesOfAText() {
        NightDitch x = new NightDitch();
        x.farm(2, 1, 100);
        x.farm(1, 1, 100);
        x.farm(2, 1, 0);
        Due.is("text o", Due.say(x, "o"), 0);
        Due.is("best(1): in front FARM 0 takes nothing", x.best(1), 0);
        Due.is("best(0): FARM 0 in front", x.best(0), 0012);
        Due.is("another text", Due.say(x, "(0-o)*100+100"), 0);
        Due.is("best(1): only in front water is worth something", x.best(1), 0);
        Due.is("best(0): FARM 0 not in front", x.best(0), 0102);
        NightDitch two = new NightDitch();
        two.farm(1, 1, 100);
        two.farm(2, 1, 100);
        Due.is("text o", Due.say(two, "o"), 0);
        Due.is("best(1): in front water is worth nothing", two.best(1), 0);
        Due.is("best(0): FARM 1 in front", two.best(0), 010);
    }

    static void promise13ByTheLongestText() {
        NightDitch x = farms(7);
        Due.is("the text", Due.say(x, "-d" + "+d".repeat(29)), 0);
        Due.is("best(0)", x.best(0), 00123456);
        Due.is("the other text", Due.say(x, "-1" + "+1".repeat(28) + "+o"), 0);
        Due.is("best(0) by places", x.best(0), 00123456);
    }

    static void promise13ChangesNothing() {
        NightDitch x = three();
        String before = Due.look(x);
        x.best(0);
        x.best(1);
        Due.holds("that all is as it was", Due.look(x).equals(before));
    }

    static void promise13AgainstAllOrders() {
        String[] texts = {"", "100+o*7", "(i<o?40:90)*d", "h*o-i*9", "n*20-o*3"};
        for (int farms = 2; farms <= 7; farms++) {
            for (int round = 0; round < 25; round++) {
                compareBest(farms, 25 * farms + round, texts[round % texts.length]);
            }
        }
    }

    private static NightDitch byChance(int farms, int seed, String text) {
        NightDitch x = RandomDitch.make(new Random(seed * 1000003L), farms);
        if (!text.isEmpty()) {
            Due.is("text " + text, Due.say(x, text), 0);
        }
        return x;
    }

    /** No object is asked of more orders than its 512 calls allow. */
    private static void compareBest(int farms, int seed, String text) {
        NightDitch x = byChance(farms, seed, text);
        long number = x.best(0);
        long lost = x.best(1);
        long leastLost = Long.MAX_VALUE;
        int leastNumber = 0;
        int asked = 0;
        for (int each = 0; each < 1 << 3 * farms; each++) {
            if (isOrder(each, farms)) {
                asked++;
                x = asked % 200 == 0 ? byChance(farms, seed, text) : x;
                x.turns(each);
                long now = x.lost(-1);
                if (now < leastLost) {
                    leastLost = now;
                    leastNumber = each;
                }
            }
        }
        Due.is("best(0) of " + farms, number, leastNumber);
        Due.is("best(1) of " + farms, lost, leastLost);
    }

    private static boolean isOrder(int number, int farms) {
        int met = 0;
        for (int place = 0; place < farms; place++) {
            met |= 1 << (number >> 3 * place & 7);
        }
        return met == (1 << farms) - 1;
    }

    // ---- promise 14: share

    static void promise14FarmTooSmall() {
        Due.refuses(TurnsTest::three, "share(-1)", x -> x.share(-1), Due.BEYOND);
        Due.refuses(TurnsTest::three, "share(MIN)", x -> x.share(Due.MIN), Due.BEYOND);
    }

    static void promise14FarmTooLarge() {
        Due.refuses(TurnsTest::three, "share(3)", x -> x.share(3), Due.BEYOND);
        Due.refuses(TurnsTest::full, "share(8)", x -> x.share(8), Due.BEYOND);
    }

    static void promise14NoFarms() {
        Due.refuses(NightDitch::new, "share(0)", x -> x.share(0), Due.BEYOND);
    }

    static void promise14OneFarmHasAll() {
        NightDitch x = one();
        Due.is("share(0) of one hour", x.share(0), 100);
        x.set(0, 0, 24);
        Due.is("share(0) of 24 hours", x.share(0), 100);
    }

    static void promise14IsCut() {
        NightDitch x = new NightDitch();
        x.farm(0, 7, 1);
        x.farm(0, 24, 1);
        x.farm(0, 1, 1);
        x.swap(0, 2);
        int[] due = {21, 75, 3};
        for (int farm = 0; farm < 3; farm++) {
            Due.is("share(" + farm + ")", x.share(farm), due[farm]);
        }
    }

    static void promise14LeastAndGreatestOfEight() {
        NightDitch x = new NightDitch();
        for (int i = 0; i < 8; i++) {
            x.farm(0, i == 0 ? 1 : 24, 1);
        }
        Due.is("share(0), less than a hundredth", x.share(0), 0);
        Due.is("share(7)", x.share(7), 14);
        x.set(0, 0, 24);
        for (int i = 1; i < 8; i++) {
            x.set(i, 0, 1);
        }
        Due.is("share(0), the greatest", x.share(0), 77);
        Due.is("share(7)", x.share(7), 3);
    }
}
