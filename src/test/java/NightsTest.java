import java.util.Random;

/** Promises 27 to 30: seed, nights, ahead, purse. */
public final class NightsTest {
    public static void main(String[] args) {
        seed();
        nightsByHand();
        nightsRefused();
        drawsAtTheEdge();
        nightsAsTold();
        ahead();
        purse();
        purseGoesRound();
        Due.end();
    }

    private static void seed() {
        NightDitch x = new NightDitch();
        Due.is("seed(5)", x.seed(5), 1);
        Due.is("seed(MIN)", x.seed(Integer.MIN_VALUE), 5);
        Due.is("seed(0)", x.seed(0), Integer.MIN_VALUE);
        Due.is("count(7)", x.count(7), 0);
    }

    /** All take always and nobody watches. */
    private static void nightsByHand() {
        NightDitch x = new NightDitch();
        x.farm(2, 1, 10);
        x.farm(2, 1, 20);
        x.farm(1, 1, 30);
        Due.is("nights(1)", x.nights(1), 2);
        // FARM 0 is owner to 1, 1 to 2 (who is honest), 2 to 0.
        Due.is("PURSE of 0", x.of(0, 5), 10 - 10);
        Due.is("PURSE of 1", x.of(1, 5), 20);
        Due.is("PURSE of 2", x.of(2, 5), -30);
        Due.is("ANGER of 0", x.of(0, 6), 1);
        Due.is("ANGER of 1", x.of(1, 6), 0);
        Due.is("ANGER of 2", x.of(2, 6), 1);
        int z = 1;
        for (int draw = 0; draw < 9; draw++) {
            z = z * 1103515245 + 12345;
        }
        Due.is("z behind nine draws", x.count(7), z);
        Due.is("nights(50)", x.nights(50), 100);
        Due.is("TAKEN", x.count(3), 102);
        Due.is("SEEN", x.count(4), 0);
        Due.is("ANGER of 2, 9 at most", x.of(2, 6), 9);
    }

    private static void nightsRefused() {
        NightDitch x = new NightDitch();
        Due.is("nights(1) without farms", x.nights(1), 0);
        x.farm(2, 1, 10);
        Due.is("nights(50) of one farm", x.nights(50), 0);
        Due.is("z without draws", x.count(7), 1);
        Due.refuses(x, "nights(0)", () -> x.nights(0), Due.BEYOND);
        Due.refuses(x, "nights(51)", () -> x.nights(51), Due.BEYOND);
        Due.refuses(x, "nights(-1)", () -> x.nights(-1), Due.BEYOND);
        Due.refuses(x, "ahead(0, 0)", () -> x.ahead(0, 0), Due.BEYOND);
        Due.refuses(x, "ahead(51, 0)", () -> x.ahead(51, 0), Due.BEYOND);
        Due.refuses(x, "ahead(1, -1)", () -> x.ahead(1, -1), Due.BEYOND);
        Due.refuses(x, "ahead(1, 3)", () -> x.ahead(1, 3), Due.BEYOND);
        Due.is("ahead(1, 2)", x.ahead(1, 2), 0);
    }

    /** P 966666, Q 987341, s 50: a draw of just as much is not below it, of one less is. */
    private static void drawsAtTheEdge() {
        int[] edges = {966666, 987341, 50};
        for (int which = 0; which < 3; which++) {
            for (int less = 0; less < 2; less++) {
                NightDitch x = new NightDitch();
                x.farm(1, 1, 40);
                x.farm(2, 1, 39);
                x.set(0, 2, 29);
                x.set(0, 3, 50);
                x.rule(0, 40);
                int z = seedFor(which, edges[which] - less);
                x.seed(z);
                compareEdge(x, z, "draw " + which + ", less by " + less);
                if (which == 0) {
                    Due.is("TAKEN at the edge", x.count(3), less);
                }
            }
        }
    }

    private static void compareEdge(NightDitch x, int seed, String which) {
        int[] draws = new int[3];
        int z = seed;
        for (int i = 0; i < 3; i++) {
            z = z * 1103515245 + 12345;
            draws[i] = z >>> 8;
        }
        boolean takes = draws[0] % 1000000 < 966666;
        boolean watches = draws[1] % 1000000 < 987341;
        boolean seen = takes && watches && draws[2] % 100 < 50;
        Due.is(which + ": nights(1)", x.nights(1), takes ? 1 : 0);
        Due.is(which + ": SEEN", x.count(4), seen ? 1 : 0);
        Due.is(which + ": PURSE of the OWNER", x.of(0, 5), (watches ? -29 : 0) + (seen ? 20 : takes ? -40 : 0));
        Due.is(which + ": PURSE of the TAKER", x.of(1, 5), seen ? -40 : takes ? 39 : 0);
    }

    /** The z with which a draw (0: the first) is told. */
    private static int seedFor(int which, int draw) {
        int inverse = 1;
        for (int i = 0; i < 8; i++) {
            inverse *= 2 - 1103515245 * inverse;
        }
        int z = draw << 8;
        for (int i = 0; i <= which; i++) {
            z = (z - 12345) * inverse;
        }
        return z;
    }

    private static void nightsAsTold() {
        Random random = new Random(11);
        int seen = 0;
        for (int round = 0; round < 200; round++) {
            NightDitch x = RandomDitch.make(random, 2 + random.nextInt(7));
            for (int night = 0; night < 12; night++) {
                new Told(x).compareNight();
            }
            seen += x.count(4);
        }
        Due.holds("that many are seen", seen > 500);
    }

    /** A night by the document's words, over what the object tells as the night begins. */
    private static final class Told {
        private final NightDitch x;
        private final int farms;
        private final int[] purse = new int[8];
        private final int[] anger = new int[8];
        private final int fine;
        private final int given;
        private final int man;
        private int z;
        private int taken = 0;
        private int seen = 0;

        Told(NightDitch x) {
            this.x = x;
            farms = x.count(0);
            for (int f = 0; f < farms; f++) {
                purse[f] = x.of(f, 5);
                anger[f] = x.of(f, 6);
            }
            fine = look(0);
            given = fine * look(1) / 100;
            man = look(3);
            z = x.count(7);
        }

        private int look(int rule) {
            int v = x.rule(rule, 0);
            x.rule(rule, v);
            return v;
        }

        private int draw() {
            z = z * 1103515245 + 12345;
            return z >>> 8;
        }

        void compareNight() {
            for (int place = 0; place < farms; place++) {
                meet(place);
            }
            int takenBefore = x.count(3);
            int seenBefore = x.count(4);
            Due.is("ahead(1, 0)", x.ahead(1, 0), taken);
            Due.is("ahead(1, 1)", x.ahead(1, 1), seen);
            Due.is("nights(1)", x.nights(1), taken);
            Due.is("TAKEN", x.count(3), takenBefore + taken);
            Due.is("SEEN", x.count(4), seenBefore + seen);
            Due.is("z", x.count(7), z);
            for (int f = 0; f < farms; f++) {
                Due.is("PURSE", x.of(f, 5), purse[f]);
                Due.is("ANGER", x.of(f, 6), anger[f]);
            }
        }

        private void meet(int place) {
            int owner = x.turn(place);
            int taker = x.turn((place + 1) % farms);
            boolean takes = draw() % 1000000 < x.rest(place, 4);
            boolean watches = draw() % 1000000 < x.rest(place, 5);
            boolean sees = draw() % 100 < Math.min(100, x.of(owner, 4) + man);
            if (watches) {
                purse[owner] -= x.of(owner, 9);
            }
            if (!takes) {
                return;
            }
            taken++;
            if (watches && sees) {
                seen++;
                purse[taker] -= fine;
                purse[owner] += given;
                anger[taker] = 0;
            } else {
                purse[taker] += x.of(taker, 8);
                purse[owner] -= x.of(owner, 7);
                anger[owner] = Math.min(9, anger[owner] + 1);
            }
        }
    }

    private static void ahead() {
        Random random = new Random(13);
        for (int round = 0; round < 60; round++) {
            int farms = 2 + random.nextInt(7);
            int n = 1 + random.nextInt(50);
            NightDitch x = RandomDitch.make(random, farms);
            x.nights(1 + random.nextInt(10));
            String before = Due.look(x);
            int taken = x.ahead(n, 0);
            int seen = x.ahead(n, 1);
            int[] purses = new int[farms];
            for (int f = 0; f < farms; f++) {
                purses[f] = x.ahead(n, 2 + f);
            }
            Due.refuses(x, "ahead of no such farm", () -> x.ahead(n, 2 + farms), Due.BEYOND);
            Due.holds("that ahead changes nothing", Due.look(x).equals(before));
            int seenBefore = x.count(4);
            Due.is("nights(" + n + ")", x.nights(n), taken);
            Due.is("SEEN", x.count(4) - seenBefore, seen);
            for (int f = 0; f < farms; f++) {
                Due.is("PURSE of " + f, x.of(f, 5), purses[f]);
            }
        }
    }

    private static void purse() {
        NightDitch x = new NightDitch();
        Due.refuses(x, "purse(0) without farms", () -> x.purse(0), Due.NONE);
        Due.refuses(x, "purse(2) without farms", () -> x.purse(2), Due.BEYOND);
        for (int i = 0; i < 4; i++) {
            x.farm(1, 1, 10);
        }
        Due.is("purse(0) of like ones", x.purse(0), 0);
        Due.is("purse(1) of like ones", x.purse(1), 0);
        x.turns(03210);
        Due.is("purse(0) by numbers, not by turns", x.purse(0), 0);
        x.farm(2, 1, 10);
        x.farm(2, 1, 10);
        // 4 takes from 0, 5 from 4, and 3, behind them all, is honest.
        x.nights(1);
        Due.is("purse(0)", x.purse(0), 5);
        Due.is("purse(1)", x.purse(1), 0);
        NightDitch y = new NightDitch();
        y.farm(1, 1, 10);
        y.farm(2, 1, 10);
        y.nights(1);
        Due.is("purse(0) of two", y.purse(0), 1);
        Due.is("purse(1) of two", y.purse(1), 0);
        y.swap(0, 1);
        y.farm(1, 1, 30);
        y.farm(2, 1, 10);
        y.farm(1, 1, 10);
        // By turns 1, 0, 2, 3, 4: 3 takes from 2, and 1 from 4.
        y.nights(1);
        Due.is("purse(0) of five", y.purse(0), 1);
        Due.is("purse(1) of five", y.purse(1), 2);
        NightDitch two = new NightDitch();
        two.farm(2, 1, 10);
        two.farm(1, 1, 10);
        two.nights(1);
        Due.is("purse(0) of the other two", two.purse(0), 0);
        Due.is("purse(1) of the other two", two.purse(1), 1);
        Due.refuses(x, "purse(-1)", () -> x.purse(-1), Due.BEYOND);
        Due.refuses(x, "purse(2)", () -> x.purse(2), Due.BEYOND);
    }

    private static void purseGoesRound() {
        NightDitch x = new NightDitch();
        x.farm(4, 1, 999);
        x.farm(1, 1, 0);
        x.dry(9);
        Due.say(x, "9999*9999");
        int due = 0;
        for (int i = 0; i < 60; i++) {
            x.nights(50);
            due += 50 * 899991;
        }
        Due.is("PURSE goes round", x.of(0, 5), due);
        Due.holds("that it went round", due < 0);
    }
}
