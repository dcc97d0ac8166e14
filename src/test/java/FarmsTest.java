/** Promises 1 to 8: a new object, farm, set, of, as, rule, dry, year. */
public final class FarmsTest {
    private static final int[] RULE_AT_FIRST = {100, 50, 10, 0, 0};
    private static final int[] RULE_MOST = {99999, 100, 999, 100, 100};

    public static void main(String[] args) throws ReflectiveOperationException {
        Due.run(FarmsTest.class, 1, 8);
        Due.end();
    }

    /** FARM 0 to count - 1, all FARMERS. */
    private static NightDitch farms(int count) {
        NightDitch x = new NightDitch();
        for (int i = 0; i < count; i++) {
            x.farm(0, 1 + i, 10 * i);
        }
        return x;
    }

    private static NightDitch one() {
        return farms(1);
    }

    private static NightDitch two() {
        return farms(2);
    }

    private static NightDitch full() {
        return farms(8);
    }

    /** FARM f is of KIND f, 30 is its WORTH, 7 its SLEEP. */
    private static NightDitch ofAllKinds() {
        NightDitch x = new NightDitch();
        for (int kind = 0; kind < 6; kind++) {
            x.farm(kind, 1, 30);
            x.set(kind, 2, 7);
        }
        return x;
    }

    /** FARM 0 as told; who sees nothing watches never, so each night makes its ANGER one more. */
    private static NightDitch angry(int kind, int worth, int sleep, int anger) {
        NightDitch x = new NightDitch();
        x.farm(kind, 1, worth);
        x.farm(2, 1, 50);
        x.set(0, 2, sleep);
        for (int night = 0; night < anger; night++) {
            x.nights(1);
        }
        Due.is("ANGER", x.of(0, 6), anger);
        return x;
    }

    private static void isFarm(NightDitch x, int farm, int... due) {
        for (int what = 0; what < due.length; what++) {
            Due.is("of(" + farm + ", " + what + ")", x.of(farm, what), due[what]);
        }
    }

    // ---- promise 1: a new object

    static void promise1NoFarms() {
        NightDitch x = new NightDitch();
        Due.is("count(0)", x.count(0), 0);
        Due.is("count(8)", x.count(8), 0);
        Due.is("turns(0)", x.turns(0), 1);
    }

    static void promise1NoText() {
        NightDitch x = new NightDitch();
        Due.is("count(5)", x.count(5), 0);
        Due.is("plain()", x.plain(), 0);
    }

    static void promise1TapeIsEmpty() {
        NightDitch x = new NightDitch();
        Due.is("count(6)", x.count(6), 0);
        Due.is("wipe()", x.wipe(), 0);
        Due.is("text()", x.text(), -1);
    }

    static void promise1NoImageIsKept() {
        Due.is("tear()", new NightDitch().tear(), 0);
        Due.refuses(NightDitch::new, "undo()", x -> x.undo(), Due.NONE);
    }

    static void promise1SheetsAreMissing() {
        for (int s = 0; s < 4; s++) {
            int sheet = s;
            Due.refuses(NightDitch::new, "write(" + s + ", 0, 1)", x -> x.write(sheet, 0, 1), Due.MISSING);
        }
    }

    static void promise1RuleAtFirst() {
        NightDitch x = new NightDitch();
        for (int what = 0; what < 5; what++) {
            Due.is("rule(" + what + ", 0)", x.rule(what, 0), RULE_AT_FIRST[what]);
        }
    }

    static void promise1YearIs0AtFirst() {
        Due.is("count(1)", new NightDitch().count(1), 0);
    }

    static void promise1DryIs1AtFirst() {
        Due.is("count(2)", new NightDitch().count(2), 1);
    }

    static void promise1ZIs1AtFirst() {
        Due.is("count(7)", new NightDitch().count(7), 1);
    }

    static void promise1NothingIsTakenOrSeen() {
        NightDitch x = new NightDitch();
        Due.is("count(3)", x.count(3), 0);
        Due.is("count(4)", x.count(4), 0);
    }

    static void promise1NoFindingIsCounted() {
        NightDitch x = new NightDitch();
        for (int which = -1; which < 7; which++) {
            Due.is("status(" + which + ")", x.status(which), 0);
        }
    }

    static void promise1StandsApartFromOthers() {
        NightDitch x = angry(3, 20, 5, 3);
        Due.say(x, "d+1");
        Due.feed(x, "12");
        x.sheet(0, 8, 3);
        x.image();
        x.year();
        x.farm(9, 1, 1);
        NightDitch y = new NightDitch();
        Due.is("status(-1)", y.status(-1), 0);
        Due.is("tear()", y.tear(), 0);
        Due.is("wipe()", y.wipe(), 0);
        Due.holds("that it is as the first was", Due.look(y).equals(Due.look(new NightDitch())));
    }

    // ---- promise 2: farm

    static void promise2KindTooSmall() {
        Due.refuses(NightDitch::new, "farm(-1, 1, 1)", x -> x.farm(-1, 1, 1), Due.BEYOND);
        Due.refuses(NightDitch::new, "farm(MIN, 1, 1)", x -> x.farm(Due.MIN, 1, 1), Due.BEYOND);
    }

    static void promise2KindTooLarge() {
        Due.refuses(NightDitch::new, "farm(6, 1, 1)", x -> x.farm(6, 1, 1), Due.BEYOND);
        Due.refuses(NightDitch::new, "farm(MAX, 1, 1)", x -> x.farm(Due.MAX, 1, 1), Due.BEYOND);
    }

    static void promise2HoursTooSmall() {
        Due.refuses(NightDitch::new, "farm(0, 0, 1)", x -> x.farm(0, 0, 1), Due.BEYOND);
        Due.refuses(NightDitch::new, "farm(0, -1, 1)", x -> x.farm(0, -1, 1), Due.BEYOND);
        Due.refuses(NightDitch::new, "farm(0, MIN, 1)", x -> x.farm(0, Due.MIN, 1), Due.BEYOND);
    }

    static void promise2HoursTooLarge() {
        Due.refuses(NightDitch::new, "farm(0, 25, 1)", x -> x.farm(0, 25, 1), Due.BEYOND);
        Due.refuses(NightDitch::new, "farm(0, MAX, 1)", x -> x.farm(0, Due.MAX, 1), Due.BEYOND);
    }

    static void promise2WorthTooSmall() {
        Due.refuses(NightDitch::new, "farm(0, 1, -1)", x -> x.farm(0, 1, -1), Due.BEYOND);
        Due.refuses(NightDitch::new, "farm(0, 1, MIN)", x -> x.farm(0, 1, Due.MIN), Due.BEYOND);
    }

    static void promise2WorthTooLarge() {
        Due.refuses(NightDitch::new, "farm(0, 1, 1000)", x -> x.farm(0, 1, 1000), Due.BEYOND);
        Due.refuses(NightDitch::new, "farm(0, 1, MAX)", x -> x.farm(0, 1, Due.MAX), Due.BEYOND);
    }

    static void promise2LeastOfAll() {
        NightDitch x = new NightDitch();
        Due.is("farm(0, 1, 0)", x.farm(0, 1, 0), 0);
        isFarm(x, 0, 0, 1, 0);
    }

    static void promise2GreatestOfAll() {
        NightDitch x = new NightDitch();
        Due.is("farm(5, 24, 999)", x.farm(5, 24, 999), 0);
        isFarm(x, 0, 5, 24, 999);
    }

    static void promise2EightFit() {
        NightDitch x = new NightDitch();
        for (int i = 0; i < 8; i++) {
            Due.is("farm(0, 1, 1)", x.farm(0, 1, 1), i);
        }
        Due.is("count(0)", x.count(0), 8);
    }

    static void promise2NinthIsFull() {
        Due.refuses(FarmsTest::full, "farm(0, 1, 1)", x -> x.farm(0, 1, 1), Due.FULL);
    }

    static void promise2BeyondIsAskedBeforeFull() {
        Due.refuses(FarmsTest::full, "farm(6, 1, 1)", x -> x.farm(6, 1, 1), Due.BEYOND);
        Due.refuses(FarmsTest::full, "farm(0, 0, 1)", x -> x.farm(0, 0, 1), Due.BEYOND);
        Due.refuses(FarmsTest::full, "farm(0, 1, 1000)", x -> x.farm(0, 1, 1000), Due.BEYOND);
    }

    static void promise2RefusedTakesNoNumber() {
        NightDitch x = one();
        x.farm(6, 1, 1);
        x.farm(0, 25, 1);
        Due.is("farm(0, 1, 1)", x.farm(0, 1, 1), 1);
    }

    static void promise2NewOneComesLast() {
        NightDitch x = farms(3);
        x.swap(0, 2);
        Due.is("farm(0, 1, 1)", x.farm(0, 1, 1), 3);
        Due.is("told()", x.told(), 02103);
    }

    static void promise2PurseAngerSleepAndSeesAre0AtFirst() {
        NightDitch x = one();
        for (int what = 3; what <= 6; what++) {
            Due.is("of(0, " + what + ")", x.of(0, what), 0);
        }
    }

    // ---- promise 3: set

    static void promise3FarmTooSmall() {
        Due.refuses(FarmsTest::two, "set(-1, 0, 1)", x -> x.set(-1, 0, 1), Due.BEYOND);
        Due.refuses(FarmsTest::two, "set(MIN, 0, 1)", x -> x.set(Due.MIN, 0, 1), Due.BEYOND);
    }

    static void promise3FarmTooLarge() {
        Due.refuses(FarmsTest::two, "set(2, 0, 1)", x -> x.set(2, 0, 1), Due.BEYOND);
        Due.refuses(FarmsTest::full, "set(8, 0, 1)", x -> x.set(8, 0, 1), Due.BEYOND);
        Due.refuses(FarmsTest::two, "set(MAX, 0, 1)", x -> x.set(Due.MAX, 0, 1), Due.BEYOND);
    }

    static void promise3NoFarms() {
        Due.refuses(NightDitch::new, "set(0, 0, 1)", x -> x.set(0, 0, 1), Due.BEYOND);
    }

    static void promise3WhatTooSmall() {
        Due.refuses(FarmsTest::two, "set(0, -1, 1)", x -> x.set(0, -1, 1), Due.BEYOND);
        Due.refuses(FarmsTest::two, "set(0, MIN, 1)", x -> x.set(0, Due.MIN, 1), Due.BEYOND);
    }

    static void promise3WhatTooLarge() {
        Due.refuses(FarmsTest::two, "set(0, 4, 1)", x -> x.set(0, 4, 1), Due.BEYOND);
        Due.refuses(FarmsTest::two, "set(0, MAX, 1)", x -> x.set(0, Due.MAX, 1), Due.BEYOND);
    }

    /** From the least to the most, and to neither what is below nor what is above. */
    private static void holdsPart(int what, int first, int least, int most) {
        NightDitch x = two();
        Due.is("set(1, " + what + ", least)", x.set(1, what, least), first);
        Due.is("of(1, least)", x.of(1, what + 1), least);
        Due.is("set(1, " + what + ", most)", x.set(1, what, most), least);
        Due.is("of(1, most)", x.of(1, what + 1), most);
        Due.refuses(FarmsTest::two, "set(1, " + what + ", below)", y -> y.set(1, what, least - 1), Due.BEYOND);
        Due.refuses(FarmsTest::two, "set(1, " + what + ", above)", y -> y.set(1, what, most + 1), Due.BEYOND);
        Due.refuses(FarmsTest::two, "set(1, " + what + ", MIN)", y -> y.set(1, what, Due.MIN), Due.BEYOND);
        Due.refuses(FarmsTest::two, "set(1, " + what + ", MAX)", y -> y.set(1, what, Due.MAX), Due.BEYOND);
    }

    static void promise3HoursFrom1To24() {
        holdsPart(0, 2, 1, 24);
    }

    static void promise3WorthFrom0To999() {
        holdsPart(1, 10, 0, 999);
    }

    static void promise3SleepFrom0To999() {
        holdsPart(2, 0, 0, 999);
    }

    static void promise3SeesFrom0To100() {
        holdsPart(3, 0, 0, 100);
    }

    static void promise3OnlyThatPartOfThatFarm() {
        NightDitch x = two();
        x.set(1, 0, 5);
        x.set(1, 1, 6);
        x.set(1, 2, 7);
        x.set(1, 3, 8);
        isFarm(x, 0, 0, 1, 0, 0, 0);
        isFarm(x, 1, 0, 5, 6, 7, 8);
    }

    // ---- promise 4: of

    static void promise4FarmTooSmall() {
        Due.refuses(FarmsTest::two, "of(-1, 0)", x -> x.of(-1, 0), Due.BEYOND);
        Due.refuses(FarmsTest::two, "of(MIN, 7)", x -> x.of(Due.MIN, 7), Due.BEYOND);
    }

    static void promise4FarmTooLarge() {
        Due.refuses(FarmsTest::two, "of(2, 0)", x -> x.of(2, 0), Due.BEYOND);
        Due.refuses(FarmsTest::full, "of(8, 10)", x -> x.of(8, 10), Due.BEYOND);
        Due.refuses(FarmsTest::two, "of(MAX, 0)", x -> x.of(Due.MAX, 0), Due.BEYOND);
    }

    static void promise4NoFarms() {
        Due.refuses(NightDitch::new, "of(0, 0)", x -> x.of(0, 0), Due.BEYOND);
    }

    static void promise4WhatTooSmall() {
        Due.refuses(FarmsTest::two, "of(0, -1)", x -> x.of(0, -1), Due.BEYOND);
        Due.refuses(FarmsTest::two, "of(0, MIN)", x -> x.of(0, Due.MIN), Due.BEYOND);
    }

    static void promise4WhatTooLarge() {
        Due.refuses(FarmsTest::two, "of(0, 11)", x -> x.of(0, 11), Due.BEYOND);
        Due.refuses(FarmsTest::two, "of(0, MAX)", x -> x.of(0, Due.MAX), Due.BEYOND);
    }

    static void promise4AllPartsInTheirOrder() {
        NightDitch x = new NightDitch();
        x.farm(0, 7, 33);
        x.farm(5, 8, 44);
        x.set(1, 2, 999);
        x.set(1, 3, 77);
        x.swap(0, 1);
        isFarm(x, 0, 0, 7, 33, 0, 0, 0, 0, 33, 33, 0, 1);
        isFarm(x, 1, 5, 8, 44, 999, 77, 0, 0, 44, 0, 499, 0);
        x.nights(1);
        // FARM 1 would rather sleep, and FARM 0 takes from it; FARM 1 wants nothing.
        isFarm(x, 0, 0, 7, 33, 0, 0, 33, 0, 33, 33, 0, 1);
        isFarm(x, 1, 5, 8, 44, 999, 77, -44, 1, 44, 0, 499, 0);
    }

    static void promise4SeesIsWithoutMan() {
        NightDitch x = two();
        x.set(0, 3, 70);
        x.rule(3, 20);
        Due.is("of(0, 4)", x.of(0, 4), 70);
    }

    private static void isPays(int worth, String text, int due) {
        NightDitch x = new NightDitch();
        x.farm(0, 1, worth);
        Due.is("text " + text, Due.say(x, text), 0);
        Due.is("PAYS of " + worth + " by " + text, x.of(0, 7), due);
        Due.is("WANTS of " + worth + " by " + text, x.of(0, 8), due);
    }

    static void promise4PaysWithoutTextIsWorth() {
        NightDitch x = two();
        x.set(0, 1, 0);
        x.set(1, 1, 999);
        Due.is("PAYS of 0", x.of(0, 7), 0);
        Due.is("PAYS of 999", x.of(1, 7), 999);
    }

    static void promise4PaysIsCut() {
        isPays(33, "250", 82);
        isPays(1, "99", 0);
        isPays(1, "100", 1);
        isPays(1, "199", 1);
    }

    static void promise4PaysIs0AtLeast() {
        isPays(100, "0-1", 0);
        isPays(999, "-9999", 0);
        isPays(100, "0", 0);
        isPays(100, "1", 1);
    }

    static void promise4PaysIs99999AtMost() {
        isPays(100, "9999*10+8", 99998);
        isPays(100, "9999*10+9", 99999);
        isPays(100, "9999*10+10", 99999);
        isPays(999, "9999*9999", 99999);
    }

    static void promise4PaysOfMoreThanAnIntHolds() {
        isPays(44, "9999*9999*21", 99999);
        isPays(999, "8192*8192*32-1", 99999);
        isPays(4, "1024*1024*1024", 99999);
        isPays(999, "-(8192*8192*32)", 0);
        isPays(3, "0-1024*1024*1024", 0);
    }

    static void promise4WantsOfEachKind() {
        NightDitch x = ofAllKinds();
        int[] due = {30, 0, 30, 30, 30, 0};
        for (int kind = 0; kind < 6; kind++) {
            Due.is("WANTS of KIND " + kind, x.of(kind, 8), due[kind]);
        }
    }

    static void promise4HonestWantsNothingOfTheGreatestPays() {
        NightDitch x = ofAllKinds();
        Due.say(x, "9999*9999");
        Due.is("WANTS of HONEST", x.of(1, 8), 0);
        Due.is("WANTS of PAID", x.of(5, 8), 0);
        Due.is("PAYS of PAID", x.of(5, 7), 99999);
    }

    static void promise4GrudgeWantsMoreByItsAnger() {
        int[] due = {50, 75, 100, 125, 150};
        for (int anger = 0; anger < due.length; anger++) {
            Due.is("WANTS with ANGER " + anger, angry(3, 50, 0, anger).of(0, 8), due[anger]);
        }
    }

    static void promise4GrudgeWantsByFourAngersAtMost() {
        for (int anger = 4; anger <= 9; anger++) {
            Due.is("WANTS with ANGER " + anger, angry(3, 50, 0, anger).of(0, 8), 150);
        }
    }

    static void promise4GrudgeHalfIsCut() {
        Due.is("WANTS of 51 with ANGER 1", angry(3, 51, 0, 1).of(0, 8), 76);
        Due.is("WANTS of 51 with ANGER 2", angry(3, 51, 0, 2).of(0, 8), 101);
        Due.is("WANTS of 1 with ANGER 4", angry(3, 1, 0, 4).of(0, 8), 1);
    }

    static void promise4AngerOfOthersMovesNothing() {
        for (int kind : new int[] {0, 2, 4}) {
            NightDitch x = angry(kind, 50, 75, 5);
            Due.is("WANTS of KIND " + kind, x.of(0, 8), 50);
            Due.is("MINDS of KIND " + kind, x.of(0, 9), 75);
        }
    }

    static void promise4TailWantsTimesDry() {
        int[] others = {30, 0, 30, 30, 0, 0};
        for (int dry : new int[] {1, 2, 9}) {
            NightDitch x = ofAllKinds();
            x.dry(dry);
            for (int kind = 0; kind < 6; kind++) {
                Due.is("WANTS of KIND " + kind, x.of(kind, 8), kind == 4 ? 30 * dry : others[kind]);
            }
        }
    }

    static void promise4WantsMayBeMoreThanPaysCan() {
        NightDitch x = ofAllKinds();
        x.dry(9);
        Due.say(x, "9999*9999");
        Due.is("WANTS of TAIL", x.of(4, 8), 899991);
        NightDitch y = angry(3, 999, 0, 4);
        Due.say(y, "9999*9999");
        Due.is("WANTS of GRUDGE", y.of(0, 8), 99999 + 4 * 49999);
    }

    static void promise4MindsOfEachKind() {
        NightDitch x = ofAllKinds();
        int[] due = {7, 7, 7, 7, 7, 3};
        for (int kind = 0; kind < 6; kind++) {
            Due.is("MINDS of KIND " + kind, x.of(kind, 9), due[kind]);
        }
    }

    static void promise4PaidMindsHalfCut() {
        NightDitch x = new NightDitch();
        x.farm(5, 1, 1);
        int[] sleep = {0, 1, 2, 3, 998, 999};
        int[] due = {0, 0, 1, 1, 499, 499};
        for (int i = 0; i < sleep.length; i++) {
            x.set(0, 2, sleep[i]);
            Due.is("MINDS of SLEEP " + sleep[i], x.of(0, 9), due[i]);
        }
    }

    static void promise4GrudgeMinds10LessForEachAnger() {
        int[] due = {95, 85, 75, 65, 55, 45, 35, 25, 15, 5};
        for (int anger = 0; anger < due.length; anger++) {
            Due.is("MINDS with ANGER " + anger, angry(3, 1, 95, anger).of(0, 9), due[anger]);
        }
    }

    static void promise4GrudgeMinds0AtLeast() {
        Due.is("MINDS of 31 with ANGER 3", angry(3, 1, 31, 3).of(0, 9), 1);
        Due.is("MINDS of 30 with ANGER 3", angry(3, 1, 30, 3).of(0, 9), 0);
        Due.is("MINDS of 29 with ANGER 3", angry(3, 1, 29, 3).of(0, 9), 0);
        Due.is("MINDS of 0 with ANGER 9", angry(3, 1, 0, 9).of(0, 9), 0);
    }

    static void promise4PlaceFollowsTheTurns() {
        NightDitch x = full();
        x.turns(076543201);
        int[] due = {6, 7, 5, 4, 3, 2, 1, 0};
        for (int farm = 0; farm < 8; farm++) {
            Due.is("of(" + farm + ", 10)", x.of(farm, 10), due[farm]);
        }
    }

    // ---- promise 5: as

    static void promise5FarmTooSmall() {
        Due.refuses(FarmsTest::two, "as(-1, 0)", x -> x.as(-1, 0), Due.BEYOND);
        Due.refuses(FarmsTest::two, "as(MIN, 0)", x -> x.as(Due.MIN, 0), Due.BEYOND);
    }

    static void promise5FarmTooLarge() {
        Due.refuses(FarmsTest::two, "as(2, 0)", x -> x.as(2, 0), Due.BEYOND);
        Due.refuses(FarmsTest::full, "as(8, 0)", x -> x.as(8, 0), Due.BEYOND);
    }

    static void promise5NoFarms() {
        Due.refuses(NightDitch::new, "as(0, 0)", x -> x.as(0, 0), Due.BEYOND);
    }

    static void promise5KindTooSmall() {
        Due.refuses(FarmsTest::ofAllKinds, "as(5, -1)", x -> x.as(5, -1), Due.BEYOND);
        Due.refuses(FarmsTest::ofAllKinds, "as(5, MIN)", x -> x.as(5, Due.MIN), Due.BEYOND);
    }

    static void promise5KindTooLarge() {
        Due.refuses(FarmsTest::ofAllKinds, "as(5, 6)", x -> x.as(5, 6), Due.BEYOND);
        Due.refuses(FarmsTest::ofAllKinds, "as(5, MAX)", x -> x.as(5, Due.MAX), Due.BEYOND);
    }

    static void promise5NoSuchFarmIsAskedBeforeKind() {
        Due.refuses(FarmsTest::ofAllKinds, "as(6, 5)", x -> x.as(6, 5), Due.BEYOND);
        Due.refuses(FarmsTest::ofAllKinds, "as(-1, 3)", x -> x.as(-1, 3), Due.BEYOND);
    }

    /** The KINDS that each KIND is, or is under, and no others. */
    static void promise5NeitherOfThatKindNorUnderIt() {
        String[] kinds = {"0", "01", "02", "023", "024", "015"};
        int[] due = {30, 0, 30, 30, 30, 0};
        for (int f = 0; f < 6; f++) {
            for (int k = 0; k < 6; k++) {
                int farm = f;
                int kind = k;
                String call = "as(" + farm + ", " + kind + ")";
                if (kinds[farm].indexOf('0' + kind) >= 0) {
                    Due.is(call, ofAllKinds().as(farm, kind), due[farm]);
                } else {
                    Due.refuses(FarmsTest::ofAllKinds, call, x -> x.as(farm, kind), Due.KIND);
                }
            }
        }
    }

    static void promise5WantsByItsOwnKind() {
        NightDitch x = ofAllKinds();
        x.dry(9);
        Due.is("as(4, 0) of a TAIL", x.as(4, 0), 270);
        Due.is("as(4, 2) of a TAIL", x.as(4, 2), 270);
        Due.is("as(5, 0) of a PAID", x.as(5, 0), 0);
        NightDitch y = angry(3, 50, 0, 9);
        Due.is("as(0, 0) of a GRUDGE", y.as(0, 0), 150);
        Due.is("as(0, 2) of a GRUDGE", y.as(0, 2), 150);
        Due.is("as(0, 3) of a GRUDGE", y.as(0, 3), 150);
    }

    // ---- promise 6: rule

    static void promise6WhatTooSmall() {
        Due.refuses(NightDitch::new, "rule(-1, 0)", x -> x.rule(-1, 0), Due.BEYOND);
        Due.refuses(NightDitch::new, "rule(MIN, 0)", x -> x.rule(Due.MIN, 0), Due.BEYOND);
    }

    static void promise6WhatTooLarge() {
        Due.refuses(NightDitch::new, "rule(5, 0)", x -> x.rule(5, 0), Due.BEYOND);
        Due.refuses(NightDitch::new, "rule(MAX, 0)", x -> x.rule(Due.MAX, 0), Due.BEYOND);
    }

    private static void holdsRule(int what) {
        int most = RULE_MOST[what];
        NightDitch x = new NightDitch();
        Due.is("rule(" + what + ", most)", x.rule(what, most), RULE_AT_FIRST[what]);
        Due.is("rule(" + what + ", 0)", x.rule(what, 0), most);
        Due.is("rule(" + what + ", 1)", x.rule(what, 1), 0);
        for (int other = 0; other < 5; other++) {
            Due.is("the others", Due.ruleOf(x, other), other == what ? 1 : RULE_AT_FIRST[other]);
        }
        Due.refuses(NightDitch::new, "rule(" + what + ", -1)", y -> y.rule(what, -1), Due.BEYOND);
        Due.refuses(NightDitch::new, "rule(" + what + ", above)", y -> y.rule(what, most + 1), Due.BEYOND);
        Due.refuses(NightDitch::new, "rule(" + what + ", MIN)", y -> y.rule(what, Due.MIN), Due.BEYOND);
        Due.refuses(NightDitch::new, "rule(" + what + ", MAX)", y -> y.rule(what, Due.MAX), Due.BEYOND);
    }

    static void promise6FineFrom0To99999() {
        holdsRule(0);
    }

    static void promise6GivesFrom0To100() {
        holdsRule(1);
    }

    static void promise6SpillFrom0To999() {
        holdsRule(2);
    }

    static void promise6ManFrom0To100() {
        holdsRule(3);
    }

    static void promise6LeakFrom0To100() {
        holdsRule(4);
    }

    // ---- promise 7: dry

    static void promise7TooSmall() {
        Due.refuses(NightDitch::new, "dry(0)", x -> x.dry(0), Due.BEYOND);
        Due.refuses(NightDitch::new, "dry(-1)", x -> x.dry(-1), Due.BEYOND);
        Due.refuses(NightDitch::new, "dry(MIN)", x -> x.dry(Due.MIN), Due.BEYOND);
    }

    static void promise7TooLarge() {
        Due.refuses(NightDitch::new, "dry(10)", x -> x.dry(10), Due.BEYOND);
        Due.refuses(NightDitch::new, "dry(MAX)", x -> x.dry(Due.MAX), Due.BEYOND);
    }

    static void promise7From1To9() {
        NightDitch x = new NightDitch();
        Due.is("dry(9)", x.dry(9), 1);
        Due.is("dry(1)", x.dry(1), 9);
        Due.is("dry(4)", x.dry(4), 1);
        Due.is("count(2)", x.count(2), 4);
    }

    // ---- promise 8: year

    private static NightDitch inYear(NightDitch x, int year) {
        for (int i = 1; i <= year; i++) {
            Due.is("year()", x.year(), i);
        }
        return x;
    }

    static void promise8GoesTo99() {
        Due.is("count(1)", inYear(new NightDitch(), 99).count(1), 99);
    }

    static void promise8RefusedIn99() {
        Due.refuses(() -> inYear(new NightDitch(), 99), "year()", x -> x.year(), Due.STATE);
    }

    static void promise8RefusedTakesNoAnger() {
        NightDitch x = inYear(angry(2, 10, 0, 0), 99);
        x.nights(3);
        Due.is("year()", x.year(), Due.STATE);
        Due.is("ANGER", x.of(0, 6), 3);
    }

    static void promise8AllAngerIsOneLess() {
        NightDitch x = new NightDitch();
        for (int i = 0; i < 8; i++) {
            x.farm(2, 1, 10);
        }
        x.nights(12);
        for (int year = 1; year <= 9; year++) {
            x.year();
            for (int farm = 0; farm < 8; farm++) {
                Due.is("ANGER of " + farm, x.of(farm, 6), 9 - year);
            }
        }
    }

    static void promise8AngerIs0AtLeast() {
        NightDitch x = angry(3, 10, 0, 1);
        int[] due = {0, 0, 0};
        for (int anger : due) {
            x.year();
            Due.is("ANGER", x.of(0, 6), anger);
        }
        Due.is("WANTS", x.of(0, 8), 10);
    }
}
