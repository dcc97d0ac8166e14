import java.util.Random;

/** Objects by chance, of a told seed, for tests that compare what two ways of asking answer. */
final class RandomDitch {
    private RandomDitch() {
    }

    static NightDitch make(Random random, int farms) {
        NightDitch x = new NightDitch();
        for (int i = 0; i < farms; i++) {
            x.farm(random.nextInt(6), 1 + random.nextInt(24), pick(random, 999));
            x.set(i, 2, pick(random, 999));
            x.set(i, 3, pick(random, 100));
        }
        x.rule(0, random.nextBoolean() ? random.nextInt(500) : pick(random, 99999));
        x.rule(1, pick(random, 100));
        x.rule(2, pick(random, 999));
        x.rule(3, random.nextBoolean() ? 0 : pick(random, 100));
        x.rule(4, pick(random, 100));
        x.dry(1 + random.nextInt(9));
        for (int i = 0; i < farms; i++) {
            x.swap(random.nextInt(farms), random.nextInt(farms));
        }
        x.seed(random.nextInt());
        return x;
    }

    /** From 0 to most; ends and small numbers more often. */
    static int pick(Random random, int most) {
        switch (random.nextInt(5)) {
            case 0: return random.nextInt(3) == 0 ? 0 : most;
            case 1: return random.nextInt(Math.min(most, 20) + 1);
            default: return random.nextInt(most + 1);
        }
    }
}
