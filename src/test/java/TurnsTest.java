import java.util.Random;

/** Promises 9 to 14: turn, swap, turns, told, best, share. */
public final class TurnsTest {
    public static void main(String[] args) {
        turnAndSwap();
        turns();
        told();
        bestOfFew();
        bestByHand();
        bestOfAll();
        share();
        Due.end();
    }

    private static NightDitch ditch(int farms) {
        NightDitch x = new NightDitch();
        for (int i = 0; i < farms; i++) {
            x.farm(i % 6, 1 + i, 10 * i);
        }
        return x;
    }

    private static void turnAndSwap() {
        NightDitch none = new NightDitch();
        Due.refuses(none, "turn(0) without farms", () -> none.turn(0), Due.BEYOND);
        Due.refuses(none, "swap(0, 0) without farms", () -> none.swap(0, 0), Due.BEYOND);
        NightDitch x = ditch(3);
        Due.is("turn(2)", x.turn(2), 2);
        Due.is("swap(0, 2)", x.swap(0, 2), 2);
        Due.is("turn(0)", x.turn(0), 2);
        Due.is("turn(1)", x.turn(1), 1);
        Due.is("turn(2)", x.turn(2), 0);
        Due.is("swap(1, 1)", x.swap(1, 1), 1);
        Due.is("swap(2, 1)", x.swap(2, 1), 1);
        Due.is("a new farm", x.farm(0, 1, 1), 3);
        Due.is("turn(3): it comes last", x.turn(3), 3);
        Due.is("told()", x.told(), 2 * 512 + 0 * 64 + 1 * 8 + 3);
        Due.refuses(x, "turn(-1)", () -> x.turn(-1), Due.BEYOND);
        Due.refuses(x, "turn(4)", () -> x.turn(4), Due.BEYOND);
        Due.refuses(x, "swap(-1, 0)", () -> x.swap(-1, 0), Due.BEYOND);
        Due.refuses(x, "swap(0, 4)", () -> x.swap(0, 4), Due.BEYOND);
        Due.refuses(x, "swap(4, 0)", () -> x.swap(4, 0), Due.BEYOND);
        Due.refuses(x, "swap(0, -1)", () -> x.swap(0, -1), Due.BEYOND);
    }

    private static void turns() {
        NightDitch none = new NightDitch();
        Due.is("turns(0) without farms", none.turns(0), 1);
        Due.refuses(none, "turns(1) without farms", () -> none.turns(1), Due.BEYOND);
        NightDitch x = ditch(3);
        Due.is("turns(0201)", x.turns(0201), 1);
        Due.is("turn(0)", x.turn(0), 2);
        Due.is("turn(1)", x.turn(1), 0);
        Due.is("turn(2)", x.turn(2), 1);
        Due.is("of(1, 10)", x.of(1, 10), 2);
        Due.refuses(x, "turns(-1)", () -> x.turns(-1), Due.BEYOND);
        Due.refuses(x, "turns(MIN)", () -> x.turns(Integer.MIN_VALUE), Due.BEYOND);
        Due.refuses(x, "turns(01000)", () -> x.turns(01000), Due.BEYOND);
        Due.refuses(x, "turns(MAX)", () -> x.turns(Integer.MAX_VALUE), Due.BEYOND);
        Due.refuses(x, "turns(0777)", () -> x.turns(0777), Due.KIND);
        Due.refuses(x, "turns(0)", () -> x.turns(0), Due.KIND);
        Due.refuses(x, "turns(0013)", () -> x.turns(0013), Due.KIND);
        Due.refuses(x, "turns(0112)", () -> x.turns(0112), Due.KIND);
        NightDitch full = ditch(8);
        Due.is("turns(076543210)", full.turns(076543210), 1);
        Due.is("told()", full.told(), 076543210);
        Due.refuses(full, "turns(077777777)", () -> full.turns(077777777), Due.KIND);
        Due.refuses(full, "turns(0100000000)", () -> full.turns(0100000000), Due.BEYOND);
    }

    private static void told() {
        NightDitch x = new NightDitch();
        Due.refuses(x, "told() without farms", x::told, Due.NONE);
        int[] due = {0, 01, 012, 0123, 01234, 012345, 0123456, 01234567};
        for (int i = 0; i < 8; i++) {
            x.farm(0, 1, 1);
            Due.is("told()", x.told(), due[i]);
        }
    }

    private static void bestOfFew() {
        NightDitch x = new NightDitch();
        Due.refuses(x, "best(0) without farms", () -> x.best(0), Due.NONE);
        x.farm(0, 1, 1);
        Due.refuses(x, "best(1) of one farm", () -> x.best(1), Due.NONE);
        Due.refuses(x, "best(2) of one farm", () -> x.best(2), Due.BEYOND);
        x.farm(0, 1, 1);
        Due.is("best(0) of two", x.best(0), 01);
        Due.is("best(1) of two", x.best(1), 20000000);
        Due.refuses(x, "best(-1)", () -> x.best(-1), Due.BEYOND);
        Due.refuses(x, "best(2)", () -> x.best(2), Due.BEYOND);
        NightDitch full = ditch(8);
        Due.refuses(full, "best(0) of eight", () -> full.best(0), Due.NONE);
        Due.refuses(full, "best(5) of eight", () -> full.best(5), Due.BEYOND);
    }

    /** Nobody sees anything: each TAKER with WANTS takes always, and SPILL is lost by it. */
    private static void bestByHand() {
        NightDitch x = new NightDitch();
        x.farm(2, 1, 100);
        x.farm(1, 1, 100);
        x.farm(2, 1, 100);
        Due.is("best(1): two that take always", x.best(1), 20000000);
        Due.is("best(0): the first of like ones", x.best(0), 0012);
        Due.is("a text by places", Due.say(x, "o"), 0);
        Due.is("best(1): the one in place 0 takes nothing", x.best(1), 10000000);
        Due.is("best(0): the first with a GAIN in front", x.best(0), 0012);
        x.set(2, 1, 0);
        Due.is("best(1): only FARM 0 takes", x.best(1), 0);
        Due.is("best(0): FARM 0 in front", x.best(0), 0012);
        Due.is("another text by places", Due.say(x, "(0-o)*100+100"), 0);
        Due.is("best(1): only in front water is worth something", x.best(1), 0);
        Due.is("best(0): FARM 0 not in front", x.best(0), 0102);
        NightDitch two = new NightDitch();
        two.farm(1, 1, 100);
        two.farm(2, 1, 100);
        Due.is("the text o", Due.say(two, "o"), 0);
        Due.is("best(1): in front water is worth nothing", two.best(1), 0);
        Due.is("best(0): FARM 1 in front", two.best(0), 010);
    }

    private static void bestOfAll() {
        Random random = new Random(7);
        String[] texts = {"", "100+o*7", "(i<o?40:90)*d", "h*o-i*9", "n*20-o*3"};
        for (int farms = 2; farms <= 7; farms++) {
            for (int round = 0; round < 25; round++) {
                NightDitch x = RandomDitch.make(random, farms);
                String text = texts[round % texts.length];
                if (!text.isEmpty()) {
                    Due.is("text " + text, Due.say(x, text), 0);
                }
                compareBest(x, farms);
            }
        }
    }

    private static void compareBest(NightDitch x, int farms) {
        int stood = x.told();
        long number = x.best(0);
        long lost = x.best(1);
        Due.is("told() behind best", x.told(), stood);
        long leastLost = Long.MAX_VALUE;
        int leastNumber = 0;
        for (int each = 0; each < 1 << 3 * farms; each++) {
            if (isOrder(each, farms)) {
                x.turns(each);
                long now = x.lost(-1);
                if (now < leastLost) {
                    leastLost = now;
                    leastNumber = each;
                }
            }
        }
        Due.is("best(0) of " + farms, number, leastNumber);
        Due.is("best(1) of " + farms, lost, leastLost);
    }

    private static boolean isOrder(int number, int farms) {
        int met = 0;
        for (int place = 0; place < farms; place++) {
            met |= 1 << (number >> 3 * place & 7);
        }
        return met == (1 << farms) - 1;
    }

    private static void share() {
        NightDitch x = new NightDitch();
        Due.refuses(x, "share(0) without farms", () -> x.share(0), Due.BEYOND);
        x.farm(0, 1, 1);
        Due.is("share(0) of one hour", x.share(0), 100);
        x.set(0, 0, 7);
        Due.is("share(0) alone", x.share(0), 100);
        x.farm(0, 24, 1);
        x.farm(0, 1, 1);
        Due.is("share(0)", x.share(0), 21);
        Due.is("share(1)", x.share(1), 75);
        Due.is("share(2)", x.share(2), 3);
        Due.refuses(x, "share(-1)", () -> x.share(-1), Due.BEYOND);
        Due.refuses(x, "share(3)", () -> x.share(3), Due.BEYOND);
    }
}
