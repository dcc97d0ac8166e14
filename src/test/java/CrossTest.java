import java.util.ArrayDeque;
import java.util.Deque;
import java.util.Random;
import java.util.function.Supplier;

/** Answers by chance against the document's words told another way: sections 2 and 4, and FAULT. */
public final class CrossTest {
    private static final int MILLION = 1000000;
    private static final int MOST_BYTES = 60;
    private static final char NO_BYTE = 256;
    private static int values = 0;
    private static int faults = 0;

    public static void main(String[] args) {
        Random random = new Random(23);
        for (int round = 0; round < 1500; round++) {
            long seed = random.nextLong();
            Supplier<NightDitch> made = () -> byChance(new Random(seed));
            compareRest(made.get());
            compareLeast(made, RandomDitch.pick(random, MILLION));
            compareBreaks(made.get(), RandomDitch.pick(random, MILLION));
            compareHire(made.get(), random.nextInt(101));
        }
        for (int round = 0; round < 20000; round++) {
            compareValue(random);
            compareFault(random);
        }
        Due.holds("that many texts were short enough: " + values, values > 5000);
        Due.holds("that many faults were told: " + faults, faults > 5000);
        System.out.println(values + " texts, " + faults + " faults");
        Due.end();
    }

    private static NightDitch byChance(Random random) {
        NightDitch x = RandomDitch.make(random, 2 + random.nextInt(7));
        if (random.nextInt(3) > 0) {
            String text = new Grown(random, x).sum(5).sign;
            if (text.length() <= MOST_BYTES) {
                Due.say(x, text);
            }
        }
        if (random.nextInt(3) > 0) {
            x.nights(1 + random.nextInt(20));
        }
        return x;
    }

    private static void compareRest(NightDitch x) {
        int farms = x.count(0);
        long fine = Due.ruleOf(x, 0);
        long given = fine * Due.ruleOf(x, 1) / 100;
        long all = 0;
        int always = 0;
        for (int place = 0; place < farms; place++) {
            int owner = x.turn(place);
            int taker = x.turn((place + 1) % farms);
            long wants = x.of(taker, 8);
            long minds = x.of(owner, 9);
            long sees = Math.min(100, x.of(owner, 4) + Due.ruleOf(x, 3));
            long[] takes = {1, 1};
            long[] watches = {0, 1};
            if (wants == 0) {
                takes[0] = 0;
            } else if (100 * minds < sees * (x.of(owner, 7) + given)) {
                watches[0] = 1;
                if (100 * wants < sees * (wants + fine)) {
                    takes = new long[] {100 * minds, sees * (x.of(owner, 7) + given)};
                    watches = new long[] {100 * wants, sees * (wants + fine)};
                }
            }
            isChance(x, place, 0, takes);
            isChance(x, place, 2, watches);
            long p = takes[0] * MILLION / takes[1];
            long q = watches[0] * MILLION / watches[1];
            long open = p * (100000000 - q * sees) / 100000000;
            Due.is("P", x.rest(place, 4), p);
            Due.is("Q", x.rest(place, 5), q);
            Due.is("OPEN", x.rest(place, 6), open);
            long lost = q * minds + open * Due.ruleOf(x, 2);
            Due.is("LOST", x.lost(place), lost);
            long together = open + Due.ruleOf(x, 4) * 10000L;
            Due.is("BLAME", x.blame(place), together == 0 ? 0 : open * MILLION / together);
            all += lost;
            always |= p == MILLION ? 1 << taker : 0;
        }
        Due.is("LOST of THE TURNS", x.lost(-1), all);
        Due.is("always()", x.always(), always);
    }

    private static void isChance(NightDitch x, int place, int what, long[] chance) {
        long above = x.rest(place, what);
        long below = x.rest(place, what + 1);
        Due.holds("that it is the chance", above * chance[1] == below * chance[0] && below > 0);
        for (long d = 2; d <= 1000; d++) {
            Due.holds("lowest terms", above % d != 0 || below % d != 0);
        }
    }

    private static int greatest(NightDitch x) {
        int greatest = 0;
        for (int place = 0; place < x.count(0); place++) {
            greatest = Math.max(greatest, x.rest(place, 4));
        }
        return greatest;
    }

    /** Asked of an object of its own, since none is good for more than 512 calls. */
    private static int greatestWith(Supplier<NightDitch> made, int fine) {
        NightDitch x = made.get();
        x.rule(0, fine);
        return greatest(x);
    }

    private static void compareLeast(Supplier<NightDitch> made, int most) {
        int least = made.get().least(most);
        if (least == Due.NONE) {
            Due.holds("that no FINE is enough", greatestWith(made, 99999) > most);
            return;
        }
        Due.holds("that the least FINE is enough", greatestWith(made, least) <= most);
        for (int below = least - 1; below >= 0; below = below < 1000 ? below - 7 : below / 2) {
            Due.holds("that a lower FINE is not enough", greatestWith(made, below) > most);
        }
    }

    private static void compareBreaks(NightDitch x, int most) {
        int got = x.breaks(most);
        int due = Due.NONE;
        for (int dry = 9; dry >= 1; dry--) {
            x.dry(dry);
            due = greatest(x) > most ? dry : due;
        }
        Due.is("breaks(" + most + ")", got, due);
    }

    private static void compareHire(NightDitch x, int more) {
        long got = x.hire(more);
        long before = x.lost(-1);
        int man = Due.ruleOf(x, 3);
        x.rule(3, Math.min(100, man + more));
        Due.is("hire(" + more + ")", got, before - x.lost(-1));
        x.rule(3, man);
    }

    private static void compareValue(Random random) {
        NightDitch x = RandomDitch.make(random, 1 + random.nextInt(8));
        Grown grown = new Grown(random, x);
        Part part = grown.sum(5);
        if (part.sign.length() > MOST_BYTES) {
            return;
        }
        values++;
        Due.is("text " + part.sign, Due.say(x, part.sign), 0);
        Due.is("what " + part.sign + " gives", x.gives(grown.farm), part.value);
        long pays = (long) x.of(grown.farm, 2) * part.value / 100;
        Due.is("PAYS", x.of(grown.farm, 7), Math.max(0, Math.min(99999, pays)));
    }

    private static void compareFault(Random random) {
        String signs = "0123456789dyhino+-*/()<?:(-(-<?:x ";
        NightDitch x = RandomDitch.make(random, 1);
        StringBuilder text = new StringBuilder(new Grown(random, x).sum(5).sign);
        for (int i = random.nextInt(4); i > 0; i--) {
            int at = random.nextInt(text.length() + 1);
            char sign = signs.charAt(random.nextInt(signs.length()));
            if (random.nextBoolean() || at == text.length()) {
                text.insert(at, sign);
            } else {
                text.deleteCharAt(at);
            }
        }
        if (text.length() <= MOST_BYTES) {
            int due = faultOf(text.toString());
            faults += due < 0 ? 1 : 0;
            Due.is("text " + text, Due.say(x, text.toString()), due);
        }
    }

    /** What text() answers, by a row of all that is open: '-', or a bracket by the part that is read. */
    static int faultOf(String text) {
        Deque<Character> open = new ArrayDeque<>();
        boolean wanted = true;
        int digits = 0;
        for (int i = 0; i < text.length(); i++) {
            char c = text.charAt(i);
            boolean digit = c >= '0' && c <= '9';
            char top = open.isEmpty() ? NO_BYTE : open.peek();
            if (wanted && (c == '-' || c == '(') && open.size() < 5) {
                open.push(c == '-' ? '-' : '<');
            } else if (wanted && (digit || "dyhino".indexOf(c) >= 0)) {
                wanted = false;
                digits = digit ? 1 : 0;
                closeSigns(open);
            } else if (!wanted && digit && digits > 0 && digits < 4) {
                digits++;
            } else if (!wanted && "+-*/".indexOf(c) >= 0) {
                wanted = true;
            } else if (!wanted && c == ')' && (top == '<' || top == ')')) {
                open.pop();
                closeSigns(open);
                digits = 0;
            } else if (!wanted && c != ')' && c == top) {
                open.pop();
                open.push(c == '<' ? '?' : c == '?' ? ':' : ')');
                wanted = true;
            } else {
                return -1 - i;
            }
        }
        return wanted || !open.isEmpty() ? -1 - text.length() : 0;
    }

    private static void closeSigns(Deque<Character> open) {
        while (!open.isEmpty() && open.peek() == '-') {
            open.pop();
        }
    }

    private static final class Part {
        final String sign;
        final int value;

        Part(String sign, int value) {
            this.sign = sign;
            this.value = value;
        }
    }

    /** Texts by chance, each with what it gives for a farm. */
    private static final class Grown {
        private static final String NAMES = "dyhino";
        private final Random random;
        private final int[] named;
        final int farm;

        Grown(Random random, NightDitch x) {
            this.random = random;
            farm = random.nextInt(x.count(0));
            named = new int[] {x.count(2), x.count(1), x.of(farm, 1), farm, x.count(0), x.of(farm, 10)};
        }

        Part sum(int room) {
            Part left = product(room);
            for (int i = random.nextInt(6); i > 3; i--) {
                boolean plus = random.nextBoolean();
                Part right = product(room);
                left = new Part(left.sign + (plus ? '+' : '-') + right.sign,
                    plus ? left.value + right.value : left.value - right.value);
            }
            return left;
        }

        private Part product(int room) {
            Part left = factor(room);
            for (int i = random.nextInt(6); i > 3; i--) {
                boolean times = random.nextBoolean();
                Part right = factor(room);
                int quotient = right.value == 0 ? 0 : left.value / right.value;
                left = new Part(left.sign + (times ? '*' : '/') + right.sign,
                    times ? left.value * right.value : quotient);
            }
            return left;
        }

        private Part factor(int room) {
            int which = random.nextInt(room > 0 ? 7 : 4);
            if (which == 4) {
                Part part = factor(room - 1);
                return new Part("-" + part.sign, -part.value);
            }
            if (which == 5) {
                return bracket(room - 1);
            }
            if (which == 6) {
                return choice(room - 1);
            }
            return which < 2 ? name() : number();
        }

        private Part bracket(int room) {
            Part part = sum(room);
            return new Part("(" + part.sign + ")", part.value);
        }

        private Part choice(int room) {
            Part a = sum(room);
            Part b = sum(room);
            Part c = sum(room);
            Part d = sum(room);
            return new Part("(" + a.sign + "<" + b.sign + "?" + c.sign + ":" + d.sign + ")",
                a.value < b.value ? c.value : d.value);
        }

        private Part number() {
            int digits = 1 + random.nextInt(4);
            StringBuilder sign = new StringBuilder();
            for (int i = 0; i < digits; i++) {
                sign.append((char) ('0' + random.nextInt(10)));
            }
            return new Part(sign.toString(), Integer.parseInt(sign.toString()));
        }

        private Part name() {
            int which = random.nextInt(NAMES.length());
            return new Part(NAMES.substring(which, which + 1), named[which]);
        }
    }
}
