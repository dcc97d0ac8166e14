import java.util.Random;
import java.util.function.IntSupplier;

/** Promises 36 to 40: image, undo, tear, count, status. */
public final class ImagesTest {
    private static final String[] FINDINGS = {"BEYOND", "FULL", "KIND", "NONE", "STATE", "MISSING", "SIZE"};

    public static void main(String[] args) throws ReflectiveOperationException {
        Due.run(ImagesTest.class, 36, 40);
        Due.end();
    }

    /** Two that take always, in the year 2, after three nights. */
    private static NightDitch lived() {
        NightDitch x = new NightDitch();
        x.farm(3, 5, 40);
        x.farm(2, 7, 30);
        x.set(0, 2, 20);
        x.set(1, 3, 10);
        x.nights(3);
        x.year();
        x.year();
        x.dry(4);
        x.swap(0, 1);
        x.rule(0, 70);
        x.rule(4, 3);
        Due.say(x, "90+d");
        return x;
    }

    private static NightDitch full() {
        NightDitch x = new NightDitch();
        for (int i = 0; i < 8; i++) {
            x.farm(1, 24, 1);
        }
        return x;
    }

    private static NightDitch kept() {
        NightDitch x = lived();
        x.image();
        return x;
    }

    /** An image, something else than was, and back: all is as it was. */
    private static void comesBack(NightDitch x, Runnable change) {
        String before = Due.look(x);
        Due.is("image()", x.image(), 1);
        change.run();
        Due.holds("that something has changed", !Due.look(x).equals(before));
        Due.is("undo()", x.undo(), x.count(0));
        Due.holds("that all is as it was", Due.look(x).equals(before));
    }

    // ---- promise 36: image

    static void promise36OfANewObject() {
        NightDitch x = new NightDitch();
        Due.is("image()", x.image(), 1);
        x.farm(0, 1, 1);
        Due.is("undo()", x.undo(), 0);
        Due.is("count(0)", x.count(0), 0);
    }

    static void promise36ChangesNothing() {
        NightDitch x = lived();
        String before = Due.look(x);
        Due.is("image()", x.image(), 1);
        Due.is("image() again", x.image(), 1);
        Due.holds("that all is as it was", Due.look(x).equals(before));
    }

    static void promise36KeepsWhichFarmsThereAre() {
        NightDitch x = lived();
        comesBack(x, () -> x.farm(2, 1, 1));
    }

    static void promise36KeepsAllEightFarms() {
        NightDitch x = full();
        x.image();
        for (int farm = 0; farm < 8; farm++) {
            x.set(farm, 1, 50 + farm);
        }
        Due.is("undo()", x.undo(), 8);
        for (int farm = 0; farm < 8; farm++) {
            Due.is("WORTH of " + farm, x.of(farm, 2), 1);
        }
    }

    static void promise36KeepsHoursWorthSleepAndSees() {
        for (int what = 0; what < 4; what++) {
            int part = what;
            NightDitch x = lived();
            comesBack(x, () -> x.set(1, part, 24));
        }
    }

    static void promise36KeepsPurseAndAnger() {
        NightDitch x = lived();
        int z = x.count(7);
        comesBack(x, () -> {
            x.nights(2);
            x.seed(z);
        });
    }

    static void promise36KeepsTheYear() {
        NightDitch x = new NightDitch();
        comesBack(x, x::year);
    }

    static void promise36KeepsDry() {
        NightDitch x = new NightDitch();
        comesBack(x, () -> x.dry(9));
    }

    static void promise36KeepsTheTurns() {
        NightDitch x = lived();
        comesBack(x, () -> x.turns(001));
    }

    static void promise36KeepsTheRule() {
        for (int what = 0; what < 5; what++) {
            int part = what;
            NightDitch x = lived();
            comesBack(x, () -> x.rule(part, 99));
        }
    }

    static void promise36KeepsTheText() {
        NightDitch x = lived();
        comesBack(x, x::plain);
        comesBack(x, () -> Due.say(x, "77"));
        NightDitch plain = full();
        comesBack(plain, () -> Due.say(plain, "100"));
    }

    static void promise36KeepsTheLongestText() {
        NightDitch x = full();
        Due.say(x, "10" + "+i".repeat(29));
        Due.is("gives(7)", x.gives(7), 10 + 29 * 7);
        x.image();
        Due.say(x, "20" + "-d".repeat(29));
        x.undo();
        Due.is("gives(7)", x.gives(7), 10 + 29 * 7);
        Due.is("gives(1)", x.gives(1), 39);
    }

    static void promise36KeepsZ() {
        NightDitch x = new NightDitch();
        comesBack(x, () -> x.seed(Due.MIN));
    }

    static void promise36KeepsTakenAndSeen() {
        NightDitch x = new NightDitch();
        x.farm(2, 1, 10);
        x.farm(2, 1, 10);
        x.set(0, 3, 100);
        x.rule(0, 0);
        x.nights(2);
        Due.is("TAKEN", x.count(3), 4);
        Due.is("SEEN", x.count(4), 2);
        x.image();
        x.nights(50);
        x.undo();
        Due.is("TAKEN", x.count(3), 4);
        Due.is("SEEN", x.count(4), 2);
    }

    static void promise36KeepsNoTape() {
        NightDitch x = new NightDitch();
        x.feed(0, 3);
        x.image();
        x.wipe();
        x.undo();
        Due.is("count(6)", x.count(6), 0);
    }

    static void promise36KeepsNoSheets() {
        NightDitch x = new NightDitch();
        x.sheet(0, 8, 1);
        x.image();
        x.write(0, 0, 5);
        x.sheet(1, 16, 1);
        x.undo();
        Due.is("write(0, 0, 6)", x.write(0, 0, 6), 5);
        Due.is("write(1, 0, 6)", x.write(1, 0, 6), 0);
    }

    static void promise36KeepsAllByChance() {
        Random random = new Random(17);
        for (int round = 0; round < 100; round++) {
            NightDitch x = RandomDitch.make(random, 2 + random.nextInt(5));
            if (random.nextBoolean()) {
                Due.say(x, "100+d*i");
            }
            x.nights(5);
            comesBack(x, () -> changeAll(x, random));
        }
    }

    private static void changeAll(NightDitch x, Random random) {
        x.farm(2, 5, 5);
        for (int f = 0; f < x.count(0); f++) {
            for (int what = 0; what < 4; what++) {
                x.set(f, what, 1 + random.nextInt(24));
            }
        }
        for (int what = 0; what < 5; what++) {
            x.rule(what, random.nextInt(101));
        }
        Due.say(x, "77-y");
        x.dry(1 + random.nextInt(9));
        x.year();
        x.swap(0, 1);
        x.nights(7);
        x.seed(random.nextInt());
    }

    // ---- promise 37: undo

    static void promise37NothingIsKept() {
        Due.refuses(NightDitch::new, "undo()", x -> x.undo(), Due.NONE);
        Due.refuses(ImagesTest::lived, "undo()", x -> x.undo(), Due.NONE);
    }

    static void promise37NothingIsKeptBehindTear() {
        Due.refuses(() -> {
            NightDitch x = kept();
            x.tear();
            return x;
        }, "undo()", x -> x.undo(), Due.NONE);
    }

    static void promise37WhatIsKeptStays() {
        NightDitch x = kept();
        String before = Due.look(x);
        for (int i = 0; i < 3; i++) {
            x.farm(0, 1, 1);
            x.nights(1);
            Due.is("undo()", x.undo(), 2);
            Due.holds("that all is as it was", Due.look(x).equals(before));
        }
        Due.is("undo() of what has not changed", x.undo(), 2);
    }

    static void promise37WhatIsKeptDoesNotMoveWithTheRest() {
        NightDitch x = kept();
        String before = Due.look(x);
        x.undo();
        x.set(0, 1, 999);
        x.rule(0, 1);
        x.turns(001);
        Due.say(x, "1");
        x.undo();
        Due.holds("that all is as it was", Due.look(x).equals(before));
    }

    static void promise37TheLatest() {
        NightDitch x = new NightDitch();
        x.image();
        x.farm(0, 1, 1);
        x.image();
        x.farm(0, 1, 1);
        Due.is("undo()", x.undo(), 1);
        Due.is("undo() again", x.undo(), 1);
    }

    static void promise37HowManyFarms() {
        NightDitch x = new NightDitch();
        x.image();
        for (int i = 0; i < 8; i++) {
            x.farm(0, 1, 1);
        }
        Due.is("undo() of none", x.undo(), 0);
        for (int i = 0; i < 8; i++) {
            Due.is("farm(0, 1, 1)", x.farm(0, 1, 1), i);
        }
        x.image();
        Due.is("undo() of eight", x.undo(), 8);
        Due.is("farm(0, 1, 1)", x.farm(0, 1, 1), Due.FULL);
    }

    static void promise37NewFarmBehindItIsNew() {
        NightDitch x = new NightDitch();
        x.farm(2, 1, 10);
        x.farm(2, 1, 10);
        x.image();
        x.farm(3, 2, 20);
        x.set(2, 2, 30);
        x.set(2, 3, 40);
        x.swap(0, 2);
        x.nights(3);
        x.undo();
        Due.is("farm(0, 4, 50)", x.farm(0, 4, 50), 2);
        int[] due = {0, 4, 50, 0, 0, 0, 0, 50, 50, 0, 2};
        for (int what = 0; what < due.length; what++) {
            Due.is("of(2, " + what + ")", x.of(2, what), due[what]);
        }
        Due.is("told()", x.told(), 0012);
    }

    static void promise37TapeStays() {
        NightDitch x = kept();
        Due.feed(x, "12");
        x.undo();
        Due.is("count(6)", x.count(6), 2);
        Due.is("text()", x.text(), 0);
        Due.is("gives(0)", x.gives(0), 12);
    }

    static void promise37SheetsStay() {
        NightDitch x = kept();
        x.sheet(3, 64, 2);
        x.write(3, 1, 5);
        x.undo();
        Due.is("write(3, 1, 0)", x.write(3, 1, 0), 5);
        Due.is("write(3, 2, 0)", x.write(3, 2, 0), Due.BEYOND);
    }

    // ---- promise 38: tear

    static void promise38NothingIsKept() {
        NightDitch x = lived();
        String before = Due.look(x);
        Due.is("tear()", x.tear(), 0);
        Due.holds("that all is as it was", Due.look(x).equals(before));
    }

    static void promise38NothingIsKeptIsNoFinding() {
        NightDitch x = new NightDitch();
        Due.is("tear()", x.tear(), 0);
        Due.is("status(-1)", x.status(-1), 0);
    }

    static void promise38SomethingIsKept() {
        NightDitch x = kept();
        String before = Due.look(x);
        Due.is("tear()", x.tear(), 1);
        Due.is("tear() again", x.tear(), 0);
        Due.holds("that all is as it was", Due.look(x).equals(before));
    }

    static void promise38AllIsTorn() {
        NightDitch x = new NightDitch();
        x.image();
        x.image();
        Due.is("tear()", x.tear(), 1);
        Due.is("undo()", x.undo(), Due.NONE);
    }

    static void promise38StillKeptBehindUndo() {
        NightDitch x = kept();
        x.undo();
        Due.is("tear()", x.tear(), 1);
    }

    static void promise38ImageBehindIt() {
        NightDitch x = new NightDitch();
        x.image();
        x.year();
        x.tear();
        x.image();
        x.year();
        Due.is("undo()", x.undo(), 0);
        Due.is("count(1)", x.count(1), 1);
        Due.is("tear()", x.tear(), 1);
    }

    // ---- promise 39: count

    static void promise39WhatTooSmall() {
        Due.refuses(ImagesTest::lived, "count(-1)", x -> x.count(-1), Due.BEYOND);
        Due.refuses(ImagesTest::lived, "count(MIN)", x -> x.count(Due.MIN), Due.BEYOND);
    }

    static void promise39WhatTooLarge() {
        Due.refuses(ImagesTest::lived, "count(9)", x -> x.count(9), Due.BEYOND);
        Due.refuses(ImagesTest::lived, "count(MAX)", x -> x.count(Due.MAX), Due.BEYOND);
    }

    static void promise39AllOfThem() {
        NightDitch x = new NightDitch();
        x.farm(2, 3, 10);
        x.farm(2, 24, 10);
        x.set(0, 3, 100);
        x.rule(0, 0);
        x.nights(50);
        x.year();
        x.dry(5);
        Due.say(x, "5");
        Due.feed(x, "1234567");
        x.seed(-99);
        int[] due = {2, 1, 5, 100, 50, 1, 7, -99, 27};
        for (int what = 0; what < due.length; what++) {
            Due.is("count(" + what + ")", x.count(what), due[what]);
        }
    }

    static void promise39Farms0To8() {
        Due.is("count(0) of none", new NightDitch().count(0), 0);
        Due.is("count(0) of eight", full().count(0), 8);
    }

    static void promise39HoursOfNoneAndOfEight() {
        Due.is("count(8) of none", new NightDitch().count(8), 0);
        Due.is("count(8) of eight", full().count(8), 192);
    }

    static void promise39FullTape() {
        NightDitch x = new NightDitch();
        for (int i = 0; i < 20; i++) {
            x.feed(0, 4);
        }
        Due.is("count(6)", x.count(6), 60);
    }

    static void promise39ZMayBeLikeAFinding() {
        NightDitch x = new NightDitch();
        x.seed(Due.NONE);
        Due.is("count(7)", x.count(7), Due.NONE);
        Due.is("status(-1)", x.status(-1), 0);
    }

    // ---- promise 40: status

    static void promise40TooSmall() {
        Due.refuses(ImagesTest::lived, "status(-2)", x -> x.status(-2), Due.BEYOND);
        Due.refuses(ImagesTest::lived, "status(MIN)", x -> x.status(Due.MIN), Due.BEYOND);
    }

    static void promise40TooLarge() {
        Due.refuses(ImagesTest::lived, "status(7)", x -> x.status(7), Due.BEYOND);
        Due.refuses(ImagesTest::lived, "status(MAX)", x -> x.status(Due.MAX), Due.BEYOND);
    }

    static void promise40ItsOwnIsCountedFromThenOn() {
        NightDitch x = new NightDitch();
        Due.is("status(7)", x.status(7), Due.BEYOND);
        Due.is("status(0)", x.status(0), 1);
        Due.is("status(-2)", x.status(-2), Due.BEYOND);
        Due.is("status(0)", x.status(0), 2);
        Due.is("status(-1)", x.status(-1), 2);
    }

    static void promise40AskingCountsNothing() {
        NightDitch x = new NightDitch();
        for (int round = 0; round < 2; round++) {
            for (int which = -1; which < 7; which++) {
                Due.is("status(" + which + ")", x.status(which), 0);
            }
        }
    }

    /** BEYOND once, FULL twice, and so on. */
    static void promise40EachByItself() {
        NightDitch x = full();
        for (int year = 0; year < 99; year++) {
            x.year();
        }
        IntSupplier[] acts = {
            () -> x.count(9), () -> x.farm(0, 1, 1), () -> x.as(0, 2), x::undo, x::year,
            () -> x.worths(0), () -> x.sheet(0, 8, -1),
        };
        for (int which = 0; which < 7; which++) {
            for (int i = 0; i <= which; i++) {
                Due.is(FINDINGS[which], acts[which].getAsInt(), Due.BEYOND - which);
            }
        }
        for (int which = 0; which < 7; which++) {
            Due.is("status(" + which + "): " + FINDINGS[which], x.status(which), which + 1);
        }
        Due.is("status(-1)", x.status(-1), 28);
    }

    static void promise40FindingsInLongs() {
        NightDitch x = new NightDitch();
        Due.is("write(0, 0, 1)", x.write(0, 0, 1), -1000000006L);
        Due.is("best(0)", x.best(0), -1000000004L);
        Due.is("lost(0)", x.lost(0), -1000000001L);
        Due.is("hire(-1)", x.hire(-1), -1000000001L);
        Due.is("status(-1)", x.status(-1), 4);
    }

    static void promise40UndoTakesNoneBack() {
        NightDitch x = kept();
        int before = x.status(-1);
        x.farm(9, 9, 9);
        x.as(1, 5);
        x.undo();
        Due.is("status(-1)", x.status(-1), before + 2);
        Due.is("status(2)", x.status(2), 1);
    }

    static void promise40TearTakesNoneBack() {
        NightDitch x = kept();
        x.farm(9, 9, 9);
        x.tear();
        Due.is("status(0)", x.status(0), 1);
    }

    /** As many as an object's calls allow: the counts do not stop at some number. */
    static void promise40HowManyEver() {
        NightDitch x = new NightDitch();
        for (int i = 1; i <= 255; i++) {
            Due.is("dry(0)", x.dry(0), Due.BEYOND);
            Due.is("told()", x.told(), Due.NONE);
        }
        Due.is("status(3)", x.status(3), 255);
        Due.is("status(-1)", x.status(-1), 510);
    }

    static void promise40OneCallCountsOneFinding() {
        NightDitch x = new NightDitch();
        Due.is("sheet(9, 9, -9)", x.sheet(9, 9, -9), Due.BEYOND);
        Due.is("copy(9, -9, 9, -9, -9)", x.copy(9, -9, 9, -9, -9), Due.BEYOND);
        Due.is("farm(9, 99, 9999)", x.farm(9, 99, 9999), Due.BEYOND);
        Due.is("status(0)", x.status(0), 3);
        Due.is("status(-1)", x.status(-1), 3);
    }
}
