import java.util.Random;

/** Promises 36 to 40: image, undo, tear, count, status. */
public final class ImagesTest {
    public static void main(String[] args) {
        imageOfAll();
        undoKeeps();
        farmsBehindUndo();
        tear();
        count();
        status();
        Due.end();
    }

    /** Sections 1 to 3 come back; THE TAPE, the sheets and status() do not. */
    private static void imageOfAll() {
        Random random = new Random(17);
        for (int round = 0; round < 100; round++) {
            NightDitch x = RandomDitch.make(random, 2 + random.nextInt(5));
            if (random.nextBoolean()) {
                Due.say(x, "100+d*i");
            }
            x.nights(5);
            String before = Due.look(x);
            Due.is("image()", x.image(), 1);
            changeAll(x, random);
            Due.holds("that much has changed", !Due.look(x).equals(before));
            Due.is("undo()", x.undo(), x.count(0));
            Due.holds("that all is as it was", Due.look(x).equals(before));
        }
    }

    private static void changeAll(NightDitch x, Random random) {
        x.farm(2, 5, 5);
        for (int f = 0; f < x.count(0); f++) {
            for (int what = 0; what < 4; what++) {
                x.set(f, what, 1 + random.nextInt(24));
            }
        }
        for (int what = 0; what < 5; what++) {
            x.rule(what, random.nextInt(101));
        }
        Due.say(x, "77-y");
        x.dry(1 + random.nextInt(9));
        x.year();
        x.swap(0, 1);
        x.nights(7);
        x.seed(random.nextInt());
    }

    private static void undoKeeps() {
        NightDitch x = new NightDitch();
        Due.refuses(x, "undo() of nothing", x::undo, Due.NONE);
        x.image();
        x.farm(0, 1, 1);
        x.image();
        x.farm(0, 1, 1);
        Due.is("undo()", x.undo(), 1);
        x.farm(0, 1, 1);
        x.farm(0, 1, 1);
        Due.is("undo() again: it stays", x.undo(), 1);
        Due.feed(x, "123");
        x.sheet(0, 8, 1);
        x.write(0, 0, 5);
        x.year();
        int findings = x.status(-1);
        x.farm(9, 1, 1);
        Due.is("undo()", x.undo(), 1);
        Due.is("THE TAPE stays", x.count(6), 3);
        Due.is("a sheet stays", x.write(0, 0, 5), 5);
        Due.is("status(-1) stays", x.status(-1), findings + 1);
        Due.is("THE YEAR does not", x.count(1), 0);
    }

    private static void farmsBehindUndo() {
        NightDitch x = new NightDitch();
        x.farm(2, 1, 10);
        x.farm(2, 1, 10);
        x.image();
        x.farm(3, 2, 20);
        x.set(2, 2, 30);
        x.set(2, 3, 40);
        x.swap(0, 2);
        x.nights(3);
        x.undo();
        Due.is("a new farm", x.farm(0, 4, 50), 2);
        int[] due = {0, 4, 50, 0, 0, 0, 0, 50, 50, 0, 2};
        for (int what = 0; what < due.length; what++) {
            Due.is("of(2, " + what + ") of a new farm", x.of(2, what), due[what]);
        }
        Due.is("told()", x.told(), 0012);
    }

    private static void tear() {
        NightDitch x = new NightDitch();
        Due.is("tear() of nothing", x.tear(), 0);
        x.image();
        x.year();
        Due.is("tear()", x.tear(), 1);
        Due.is("tear() again", x.tear(), 0);
        Due.refuses(x, "undo() of what is torn", x::undo, Due.NONE);
        x.image();
        x.year();
        Due.is("undo() of a new image", x.undo(), 0);
        Due.is("count(1)", x.count(1), 1);
        Due.is("tear()", x.tear(), 1);
    }

    private static void count() {
        NightDitch x = new NightDitch();
        x.farm(2, 3, 10);
        x.farm(2, 24, 10);
        x.year();
        x.dry(5);
        x.set(0, 2, 1);
        x.set(0, 3, 100);
        x.rule(0, 1);
        x.nights(50);
        Due.say(x, "5");
        Due.feed(x, "1234567");
        x.seed(-99);
        // FARM 1 takes always or by 1 in 10 and is watched by 10 in 11; FARM 0 takes always.
        int[] due = {2, 1, 5, x.count(3), x.count(4), 1, 7, -99, 27};
        for (int what = 0; what < due.length; what++) {
            Due.is("count(" + what + ")", x.count(what), due[what]);
        }
        Due.holds("that some are seen, not all", x.count(4) > 0 && x.count(4) < x.count(3) - 49);
        Due.refuses(x, "count(-1)", () -> x.count(-1), Due.BEYOND);
        Due.refuses(x, "count(9)", () -> x.count(9), Due.BEYOND);
        x.seed(Due.NONE);
        int findings = x.status(-1);
        Due.is("count(7), as a finding is told", x.count(7), Due.NONE);
        Due.is("seed(1) then", x.seed(1), Due.NONE);
        Due.is("which is none", x.status(-1), findings);
    }

    private static void status() {
        NightDitch x = new NightDitch();
        for (int which = -1; which < 7; which++) {
            Due.is("status(" + which + ") at first", x.status(which), 0);
        }
        x.count(9);
        for (int i = 0; i < 16; i++) {
            x.feed(0, 4);
        }
        for (int i = 0; i < 8; i++) {
            x.farm(1, 1, 1);
        }
        x.farm(1, 1, 1);
        x.as(0, 2);
        x.as(0, 3);
        x.as(0, 4);
        x.undo();
        x.best(0);
        x.breaks(5);
        x.undo();
        for (int i = 0; i < 104; i++) {
            x.year();
        }
        for (int i = 0; i < 6; i++) {
            x.write(0, 0, 0);
        }
        for (int i = 0; i < 7; i++) {
            x.sheet(0, 8, -1);
        }
        int[] due = {1, 2, 3, 4, 5, 6, 7};
        int all = 28;
        Due.is("status(-1)", x.status(-1), all);
        for (int which = 0; which < 7; which++) {
            Due.is("status(" + which + ")", x.status(which), due[which]);
        }
        Due.is("status(7)", x.status(7), Due.BEYOND);
        Due.is("status(-2)", x.status(-2), Due.BEYOND);
        Due.is("status(0) behind them", x.status(0), 3);
        Due.is("status(-1) behind them", x.status(-1), 30);
        Due.refuses(x, "status(MAX)", () -> x.status(Integer.MAX_VALUE), Due.BEYOND);
        x.image();
        x.farm(9, 9, 9);
        x.undo();
        int now = x.status(0);
        x.farm(9, 9, 9);
        x.undo();
        Due.is("status(0): undo() takes none back", x.status(0), now + 1);
    }
}
