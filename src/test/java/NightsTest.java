import java.util.Random;

/** Promises 27 to 30: seed, nights, ahead, purse. */
public final class NightsTest {
    private static final int MILLION = 1000000;

    public static void main(String[] args) throws ReflectiveOperationException {
        Due.run(NightsTest.class, 27, 30);
        Due.end();
    }

    private static NightDitch one() {
        NightDitch x = new NightDitch();
        x.farm(2, 1, 10);
        return x;
    }

    /** FARMS of GAIN: all take always, and nobody watches. */
    private static NightDitch gains(int... worths) {
        NightDitch x = new NightDitch();
        for (int worth : worths) {
            x.farm(2, 1, worth);
        }
        return x;
    }

    private static NightDitch two() {
        return gains(10, 20);
    }

    private static NightDitch full() {
        return gains(1, 2, 3, 4, 5, 6, 7, 8);
    }

    /** FARM 0 is met by FARM 1 with P 966666, Q 987341 and s 50; S is 29, W 39, V 40, G 20. FARM 0 wants nothing. */
    private static NightDitch byChance() {
        NightDitch x = new NightDitch();
        x.farm(1, 1, 40);
        x.farm(2, 1, 39);
        x.set(0, 2, 29);
        x.set(0, 3, 50);
        x.rule(0, 40);
        return x;
    }

    private static int drawn(int z) {
        return z * 1103515245 + 12345;
    }

    /** The z before the one that a draw makes of it. */
    private static int undrawn(int z) {
        int inverse = 1;
        for (int i = 0; i < 8; i++) {
            inverse *= 2 - 1103515245 * inverse;
        }
        return (z - 12345) * inverse;
    }

    /** The z with which a draw (0: the first) is told. */
    private static int seedFor(int which, int draw) {
        int z = draw << 8;
        for (int i = 0; i <= which; i++) {
            z = undrawn(z);
        }
        return z;
    }

    // ---- promise 27: seed

    static void promise27AnyNumber() {
        NightDitch x = new NightDitch();
        Due.is("seed(5)", x.seed(5), 1);
        Due.is("seed(MIN)", x.seed(Due.MIN), 5);
        Due.is("seed(MAX)", x.seed(Due.MAX), Due.MIN);
        Due.is("seed(0)", x.seed(0), Due.MAX);
        Due.is("seed(-1)", x.seed(-1), 0);
        Due.is("count(7)", x.count(7), -1);
    }

    static void promise27MayBeLikeAFinding() {
        NightDitch x = new NightDitch();
        x.seed(Due.STATE);
        Due.is("seed(1)", x.seed(1), Due.STATE);
        Due.is("status(-1)", x.status(-1), 0);
    }

    // ---- promise 28: nights

    static void promise28TooFew() {
        Due.refuses(NightsTest::two, "nights(0)", x -> x.nights(0), Due.BEYOND);
        Due.refuses(NightsTest::two, "nights(-1)", x -> x.nights(-1), Due.BEYOND);
        Due.refuses(NightsTest::two, "nights(MIN)", x -> x.nights(Due.MIN), Due.BEYOND);
    }

    static void promise28TooMany() {
        Due.refuses(NightsTest::two, "nights(51)", x -> x.nights(51), Due.BEYOND);
        Due.refuses(NightsTest::two, "nights(MAX)", x -> x.nights(Due.MAX), Due.BEYOND);
    }

    static void promise28OneAndFifty() {
        NightDitch x = two();
        Due.is("nights(1)", x.nights(1), 2);
        Due.is("nights(50)", x.nights(50), 100);
        Due.is("TAKEN", x.count(3), 102);
        Due.is("SEEN", x.count(4), 0);
    }

    static void promise28NoDrawsWithFewerThanTwoFarms() {
        NightDitch x = new NightDitch();
        Due.is("nights(1) without farms", x.nights(1), 0);
        x.farm(2, 1, 10);
        Due.is("nights(50) of one farm", x.nights(50), 0);
        Due.is("z", x.count(7), 1);
        Due.is("PURSE", x.of(0, 5), 0);
        Due.is("ANGER", x.of(0, 6), 0);
    }

    static void promise28ThreeDrawsForEachMeet() {
        NightDitch x = gains(10, 0, 20);
        int z = 1;
        for (int draw = 0; draw < 9; draw++) {
            z = drawn(z);
        }
        x.nights(1);
        Due.is("z behind nine draws", x.count(7), z);
        for (int draw = 0; draw < 18; draw++) {
            z = drawn(z);
        }
        x.nights(2);
        Due.is("z behind eighteen more", x.count(7), z);
    }

    static void promise28DrawsGoRound() {
        for (int seed : new int[] {Due.MIN, Due.MAX, -1, 0}) {
            NightDitch x = two();
            x.seed(seed);
            x.nights(1);
            int z = seed;
            for (int draw = 0; draw < 6; draw++) {
                z = drawn(z);
            }
            Due.is("z behind six draws from " + seed, x.count(7), z);
        }
    }

    /** What a draw makes is without a sign: z below 0 is as great as any. */
    static void promise28DrawOfANumberBelow0() {
        int draw = 15000000 + 966666;
        Due.holds("that z is below 0", draw << 8 < 0);
        NightDitch x = byChance();
        x.seed(seedFor(0, draw));
        Due.is("nights(1) of as much as P", x.nights(1), 0);
        x = byChance();
        x.seed(seedFor(0, draw - 1));
        Due.is("nights(1) of one less", x.nights(1), 1);
    }

    static void promise28TakenIfTheFirstDrawIsBelowP() {
        isAtEdge(0, 966666, 0);
        isAtEdge(0, 966665, 1);
    }

    static void promise28WatchedIfTheSecondDrawIsBelowQ() {
        isAtEdge(1, 987341, 0);
        isAtEdge(1, 987340, 1);
    }

    static void promise28SeenIfTheThirdDrawIsBelowSees() {
        isAtEdge(2, 50, 0);
        isAtEdge(2, 49, 1);
    }

    /** What comes of one night with a told draw: below is 1 if that draw is below what it is held to. */
    private static void isAtEdge(int which, int draw, int below) {
        NightDitch x = byChance();
        int z = seedFor(which, draw);
        x.seed(z);
        int[] draws = new int[3];
        for (int i = 0; i < 3; i++) {
            z = drawn(z);
            draws[i] = z >>> 8;
        }
        Due.is("the draw", draws[which], draw);
        boolean[] is = {draws[0] % MILLION < 966666, draws[1] % MILLION < 987341, draws[2] % 100 < 50};
        Due.holds("that it is below", is[which] == (below == 1));
        boolean seen = is[0] && is[1] && is[2];
        Due.is("nights(1)", x.nights(1), is[0] ? 1 : 0);
        Due.is("SEEN", x.count(4), seen ? 1 : 0);
        Due.is("PURSE of the OWNER", x.of(0, 5), (is[1] ? -29 : 0) + (seen ? 20 : is[0] ? -40 : 0));
        Due.is("PURSE of the TAKER", x.of(1, 5), seen ? -40 : is[0] ? 39 : 0);
    }

    /** Of 100 hundredths all is seen: s times Q is 100 million, and OPEN is 0. */
    static void promise28AllIsSeenByWhoSees100() {
        NightDitch x = byChance();
        x.set(0, 3, 100);
        x.rule(0, 0);
        Due.is("OPEN", x.rest(0, 6), 0);
        Due.is("nights(50)", x.nights(50), 50);
        Due.is("SEEN", x.count(4), 50);
        Due.is("ANGER of the OWNER", x.of(0, 6), 0);
    }

    static void promise28NothingIsTakenIfPIs0() {
        NightDitch x = byChance();
        x.set(0, 2, 0);
        Due.is("P", x.rest(0, 4), 0);
        for (int i = 0; i < 4; i++) {
            Due.is("nights(50)", x.nights(50), 0);
        }
        Due.is("PURSE of who minds nothing", x.of(0, 5), 0);
    }

    static void promise28TakenAndNotSeen() {
        NightDitch x = gains(10, 20, 30);
        x.swap(1, 2);
        Due.is("nights(1)", x.nights(1), 3);
        // FARM 2 takes from 0, 1 from 2, and 0 from 1: W is what it is worth to who takes, V to who owns.
        int[] due = {-10 + 10, -20 + 20, -30 + 30};
        for (int farm = 0; farm < 3; farm++) {
            Due.is("PURSE of " + farm, x.of(farm, 5), due[farm]);
            Due.is("ANGER of " + farm, x.of(farm, 6), 1);
        }
        NightDitch y = new NightDitch();
        y.farm(2, 1, 10);
        y.farm(2, 1, 20);
        y.farm(1, 1, 30);
        Due.is("nights(1) with one that takes nothing", y.nights(1), 2);
        Due.is("PURSE of 0", y.of(0, 5), -10 + 10);
        Due.is("PURSE of 1", y.of(1, 5), 20);
        Due.is("PURSE of 2", y.of(2, 5), -30);
        Due.is("ANGER of 1", y.of(1, 6), 0);
        Due.is("ANGER of 2", y.of(2, 6), 1);
    }

    /** Without a FINE FARM 0 takes always, and FARM 1, who sees all, watches always. */
    static void promise28AngerOfWhoIsSeenIs0() {
        NightDitch x = gains(10, 10);
        x.nights(7);
        Due.is("ANGER of FARM 0", x.of(0, 6), 7);
        Due.is("ANGER of FARM 1", x.of(1, 6), 7);
        x.rule(0, 0);
        x.set(1, 3, 100);
        x.nights(1);
        Due.is("SEEN", x.count(4), 1);
        Due.is("ANGER of FARM 0", x.of(0, 6), 0);
        Due.is("ANGER of FARM 1", x.of(1, 6), 7);
    }

    static void promise28AngerIs9AtMost() {
        NightDitch x = two();
        int[] due = {1, 2, 3, 4, 5, 6, 7, 8, 9, 9, 9};
        for (int anger : due) {
            x.nights(1);
            Due.is("ANGER of 0", x.of(0, 6), anger);
            Due.is("ANGER of 1", x.of(1, 6), anger);
        }
    }

    /** The GRUDGE is OWNER first and TAKER last: what it wants is what it wanted before it was angered. */
    static void promise28ByWhatIsAtRestAsTheNightBegins() {
        NightDitch x = new NightDitch();
        x.farm(3, 1, 50);
        x.farm(2, 1, 50);
        int[] due = {0, 25, 75, 150, 250, 350};
        for (int purse : due) {
            x.nights(1);
            Due.is("PURSE of the GRUDGE", x.of(0, 5), purse);
        }
    }

    static void promise28EachNightBeginsAnew() {
        NightDitch x = new NightDitch();
        x.farm(3, 1, 50);
        x.farm(2, 1, 50);
        x.nights(6);
        Due.is("PURSE of the GRUDGE", x.of(0, 5), 350);
    }

    static void promise28PurseGoesRoundAbove() {
        NightDitch x = new NightDitch();
        x.farm(4, 1, 999);
        x.farm(1, 1, 0);
        x.dry(9);
        Due.say(x, "9999*9999");
        int due = 0;
        for (int i = 0; i < 60; i++) {
            x.nights(50);
            due += 50 * 899991;
        }
        Due.is("PURSE", x.of(0, 5), due);
        Due.holds("that it went round", due < 0);
    }

    static void promise28PurseGoesRoundBelow() {
        NightDitch x = new NightDitch();
        x.farm(1, 1, 999);
        x.farm(2, 1, 1);
        Due.say(x, "9999*9999");
        int due = 0;
        for (int i = 0; i < 450; i++) {
            x.nights(50);
            due -= 50 * 99999;
        }
        Due.is("PURSE", x.of(0, 5), due);
        Due.holds("that it went round", due > 0);
    }

    static void promise28ByASecondTelling() {
        Random random = new Random(11);
        int seen = 0;
        for (int round = 0; round < 400; round++) {
            NightDitch x = RandomDitch.make(random, 2 + random.nextInt(7));
            for (int night = 0; night < 4; night++) {
                new Told(x).compareNight();
            }
            seen += x.count(4);
        }
        Due.holds("that many are seen", seen > 300);
    }

    /** A night by the document's words, over what the object tells as the night begins. */
    private static final class Told {
        private final NightDitch x;
        private final int farms;
        private final int[] purse = new int[8];
        private final int[] anger = new int[8];
        private final int fine;
        private final int given;
        private final int man;
        private int z;
        private int taken = 0;
        private int seen = 0;

        Told(NightDitch x) {
            this.x = x;
            farms = x.count(0);
            for (int f = 0; f < farms; f++) {
                purse[f] = x.of(f, 5);
                anger[f] = x.of(f, 6);
            }
            fine = Due.ruleOf(x, 0);
            given = fine * Due.ruleOf(x, 1) / 100;
            man = Due.ruleOf(x, 3);
            z = x.count(7);
        }

        private int draw() {
            z = drawn(z);
            return z >>> 8;
        }

        void compareNight() {
            for (int place = 0; place < farms; place++) {
                meet(place);
            }
            int takenBefore = x.count(3);
            int seenBefore = x.count(4);
            Due.is("nights(1)", x.nights(1), taken);
            Due.is("TAKEN", x.count(3), takenBefore + taken);
            Due.is("SEEN", x.count(4), seenBefore + seen);
            Due.is("z", x.count(7), z);
            for (int f = 0; f < farms; f++) {
                Due.is("PURSE", x.of(f, 5), purse[f]);
                Due.is("ANGER", x.of(f, 6), anger[f]);
            }
        }

        private void meet(int place) {
            int owner = x.turn(place);
            int taker = x.turn((place + 1) % farms);
            boolean takes = draw() % MILLION < x.rest(place, 4);
            boolean watches = draw() % MILLION < x.rest(place, 5);
            boolean sees = draw() % 100 < Math.min(100, x.of(owner, 4) + man);
            if (watches) {
                purse[owner] -= x.of(owner, 9);
            }
            if (!takes) {
                return;
            }
            taken++;
            if (watches && sees) {
                seen++;
                purse[taker] -= fine;
                purse[owner] += given;
                anger[taker] = 0;
            } else {
                purse[taker] += x.of(taker, 8);
                purse[owner] -= x.of(owner, 7);
                anger[owner] = Math.min(9, anger[owner] + 1);
            }
        }
    }

    // ---- promise 29: ahead

    static void promise29TooFew() {
        Due.refuses(NightsTest::two, "ahead(0, 0)", x -> x.ahead(0, 0), Due.BEYOND);
        Due.refuses(NightsTest::two, "ahead(-1, 0)", x -> x.ahead(-1, 0), Due.BEYOND);
        Due.refuses(NightsTest::two, "ahead(MIN, 0)", x -> x.ahead(Due.MIN, 0), Due.BEYOND);
    }

    static void promise29TooMany() {
        Due.refuses(NightsTest::two, "ahead(51, 0)", x -> x.ahead(51, 0), Due.BEYOND);
        Due.refuses(NightsTest::two, "ahead(MAX, 0)", x -> x.ahead(Due.MAX, 0), Due.BEYOND);
    }

    static void promise29WhatTooSmall() {
        Due.refuses(NightsTest::two, "ahead(1, -1)", x -> x.ahead(1, -1), Due.BEYOND);
        Due.refuses(NightsTest::two, "ahead(1, MIN)", x -> x.ahead(1, Due.MIN), Due.BEYOND);
    }

    static void promise29NoSuchFarm() {
        Due.refuses(NightDitch::new, "ahead(1, 2)", x -> x.ahead(1, 2), Due.BEYOND);
        Due.refuses(NightsTest::one, "ahead(1, 3)", x -> x.ahead(1, 3), Due.BEYOND);
        Due.refuses(NightsTest::full, "ahead(1, 10)", x -> x.ahead(1, 10), Due.BEYOND);
        Due.refuses(NightsTest::full, "ahead(1, MAX)", x -> x.ahead(1, Due.MAX), Due.BEYOND);
    }

    static void promise29OneAndFifty() {
        NightDitch x = two();
        Due.is("ahead(1, 0)", x.ahead(1, 0), 2);
        Due.is("ahead(50, 0)", x.ahead(50, 0), 100);
        Due.is("ahead(50, 1)", x.ahead(50, 1), 0);
    }

    static void promise29FewerThanTwoFarms() {
        NightDitch x = new NightDitch();
        Due.is("ahead(50, 0) without farms", x.ahead(50, 0), 0);
        Due.is("ahead(50, 1) without farms", x.ahead(50, 1), 0);
        NightDitch y = one();
        Due.is("ahead(50, 0) of one farm", y.ahead(50, 0), 0);
        Due.is("ahead(50, 2) of one farm", y.ahead(50, 2), 0);
    }

    static void promise29FirstAndLastFarm() {
        NightDitch x = new NightDitch();
        for (int i = 0; i < 8; i++) {
            x.farm(i % 2 == 0 ? 2 : 1, 1, 10 + i);
        }
        Due.is("ahead(3, 2)", x.ahead(3, 2), 30);
        Due.is("ahead(3, 9)", x.ahead(3, 9), -51);
    }

    static void promise29OnlyWhatIsToCome() {
        NightDitch x = two();
        x.nights(5);
        Due.is("ahead(1, 0)", x.ahead(1, 0), 2);
        Due.is("TAKEN", x.count(3), 10);
        NightDitch y = byChance();
        y.rule(0, 0);
        y.set(0, 3, 100);
        y.nights(5);
        Due.is("ahead(1, 1)", y.ahead(1, 1), 1);
        Due.is("SEEN", y.count(4), 5);
    }

    static void promise29NothingChanges() {
        NightDitch x = byChance();
        x.nights(3);
        String before = Due.look(x);
        int first = x.ahead(50, 3);
        Due.is("ahead(50, 3) again", x.ahead(50, 3), first);
        Due.holds("that all is as it was, z too", Due.look(x).equals(before));
    }

    static void promise29AsTheNightsThen() {
        Random random = new Random(13);
        for (int round = 0; round < 60; round++) {
            int farms = 2 + random.nextInt(7);
            int n = 1 + random.nextInt(50);
            NightDitch x = RandomDitch.make(random, farms);
            x.nights(1 + random.nextInt(10));
            int taken = x.ahead(n, 0);
            int seen = x.ahead(n, 1);
            int[] purses = new int[farms];
            for (int f = 0; f < farms; f++) {
                purses[f] = x.ahead(n, 2 + f);
            }
            int seenBefore = x.count(4);
            Due.is("nights(" + n + ")", x.nights(n), taken);
            Due.is("SEEN", x.count(4) - seenBefore, seen);
            for (int f = 0; f < farms; f++) {
                Due.is("PURSE of " + f, x.of(f, 5), purses[f]);
            }
        }
    }

    // ---- promise 30: purse

    static void promise30WhatTooSmall() {
        Due.refuses(NightsTest::two, "purse(-1)", x -> x.purse(-1), Due.BEYOND);
        Due.refuses(NightsTest::two, "purse(MIN)", x -> x.purse(Due.MIN), Due.BEYOND);
    }

    static void promise30WhatTooLarge() {
        Due.refuses(NightsTest::two, "purse(2)", x -> x.purse(2), Due.BEYOND);
        Due.refuses(NightsTest::two, "purse(MAX)", x -> x.purse(Due.MAX), Due.BEYOND);
    }

    static void promise30NoFarms() {
        Due.refuses(NightDitch::new, "purse(0)", x -> x.purse(0), Due.NONE);
        Due.refuses(NightDitch::new, "purse(1)", x -> x.purse(1), Due.NONE);
    }

    static void promise30BeyondIsAskedBeforeNone() {
        Due.refuses(NightDitch::new, "purse(-1)", x -> x.purse(-1), Due.BEYOND);
        Due.refuses(NightDitch::new, "purse(2)", x -> x.purse(2), Due.BEYOND);
    }

    static void promise30OneFarmIsBoth() {
        Due.is("purse(0)", one().purse(0), 0);
        Due.is("purse(1)", one().purse(1), 0);
    }

    static void promise30OfLikeOnesTheLeast() {
        NightDitch x = full();
        x.turns(076543210);
        Due.is("purse(0)", x.purse(0), 0);
        Due.is("purse(1)", x.purse(1), 0);
    }

    /** By turns 0 to 5; each of KIND 2 takes from the one before it. */
    static void promise30OfLikeOnesBehindTheFirst() {
        NightDitch x = new NightDitch();
        for (int kind : new int[] {2, 1, 2, 1, 2, 1}) {
            x.farm(kind, 1, 10);
        }
        x.set(0, 1, 0);
        x.nights(1);
        int[] due = {0, -10, 10, -10, 10, 0};
        for (int farm = 0; farm < 6; farm++) {
            Due.is("PURSE of " + farm, x.of(farm, 5), due[farm]);
        }
        Due.is("purse(0)", x.purse(0), 2);
        Due.is("purse(1)", x.purse(1), 1);
    }

    /** One by more than two thousand million above the other: no difference tells that in an int. */
    static void promise30FarApart() {
        NightDitch x = new NightDitch();
        x.farm(4, 1, 999);
        x.farm(1, 1, 999);
        x.dry(9);
        Due.say(x, "9999*9999");
        for (int i = 0; i < 46; i++) {
            x.nights(50);
        }
        Due.is("PURSE of 0", x.of(0, 5), 2300 * 899991);
        Due.is("PURSE of 1", x.of(1, 5), -2300 * 99999);
        Due.is("purse(0)", x.purse(0), 0);
        Due.is("purse(1)", x.purse(1), 1);
    }

    static void promise30TheLastFarm() {
        NightDitch x = new NightDitch();
        x.farm(1, 1, 10);
        x.farm(2, 1, 10);
        x.nights(1);
        Due.is("purse(0) of the last", x.purse(0), 1);
        Due.is("purse(1) of the first", x.purse(1), 0);
        NightDitch y = new NightDitch();
        y.farm(2, 1, 10);
        y.farm(1, 1, 10);
        y.nights(1);
        Due.is("purse(0) of the first", y.purse(0), 0);
        Due.is("purse(1) of the last", y.purse(1), 1);
    }
}
