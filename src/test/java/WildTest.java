import java.lang.reflect.InvocationTargetException;
import java.lang.reflect.Method;
import java.lang.reflect.Modifier;
import java.util.Arrays;
import java.util.Comparator;
import java.util.Random;

/** Any arguments in any state: no call throws, and a finding changes nothing but status(). */
public final class WildTest {
    private static final int[] EDGES = {
        Integer.MIN_VALUE, Integer.MIN_VALUE + 1, -1000000001, -9, -2, -1, 0, 1, 2, 3, 4, 5, 6, 7, 8, 9,
        10, 11, 16, 24, 25, 40, 41, 50, 51, 60, 64, 65, 99, 100, 101, 999, 1000, 99999, 100000, 999999,
        1000000, 1000001, 16777215, 16777216, Integer.MAX_VALUE - 1, Integer.MAX_VALUE,
    };
    private static final String SIGNS = "0159dyhino+-*/()<?:(-(-";

    private static final Method[] METHODS = Arrays.stream(NightDitch.class.getDeclaredMethods())
        .filter(m -> Modifier.isPublic(m.getModifiers()))
        .sorted(Comparator.comparing(Method::getName)).toArray(Method[]::new);

    public static void main(String[] args) throws ReflectiveOperationException {
        Random random = new Random(29);
        for (int round = 0; round < 500; round++) {
            NightDitch x = make(random.nextLong());
            for (int call = 0; call < 460; call++) {
                new Call(random).on(x);
            }
        }
        for (int round = 0; round < 3000; round++) {
            findingsChangeNothing(random);
        }
        Due.end();
    }

    private static NightDitch make(long seed) {
        Random random = new Random(seed);
        return random.nextBoolean() ? new NightDitch() : RandomDitch.make(random, 1 + random.nextInt(8));
    }

    /** A twin has all the calls but those that answered a finding: both tell the same in the end. */
    private static void findingsChangeNothing(Random random) throws ReflectiveOperationException {
        long seed = random.nextLong();
        NightDitch x = make(seed);
        NightDitch twin = make(seed);
        int findings = 0;
        for (int i = 0; i < 60; i++) {
            Call call = new Call(random);
            long answer = call.on(x);
            int more = x.status(-1) - findings;
            findings += more;
            Due.holds("that " + call + " counts one finding at most", more == 0 || more == 1);
            if (more == 0) {
                long same = call.on(twin);
                Due.is(call + " on a twin", same, call.asksStatus() ? 0 : answer);
            } else {
                Due.holds("that " + call + " answers a finding", answer <= Due.BEYOND && answer >= Due.SIZE);
            }
        }
        Due.holds("that refused calls change nothing", Due.look(x).equals(Due.look(twin)));
    }

    private static final class Call {
        private final Method method;
        private final Object[] given;

        Call(Random random) {
            method = METHODS[random.nextInt(METHODS.length)];
            given = new Object[method.getParameterCount()];
            for (int i = 0; i < given.length; i++) {
                int v = argument(method.getName(), i, random);
                boolean isLong = method.getParameterTypes()[i] == long.class;
                given[i] = isLong ? (Object) (random.nextLong() ^ v) : (Object) v;
            }
        }

        long on(NightDitch x) throws IllegalAccessException {
            try {
                return ((Number) method.invoke(x, given)).longValue();
            } catch (InvocationTargetException thrown) {
                Due.holds(this + ", which threw " + thrown.getCause() + ",", false);
                return 0;
            }
        }

        /** status() alone tells of what the twin was not asked. */
        boolean asksStatus() {
            return method.getName().equals("status");
        }

        @Override
        public String toString() {
            return method.getName() + Arrays.toString(given);
        }
    }

    private static int argument(String name, int i, Random random) {
        if (name.equals("feed") && random.nextInt(10) > 0) {
            return i == 1 ? 1 : SIGNS.charAt(random.nextInt(SIGNS.length()));
        }
        switch (random.nextInt(4)) {
            case 0: return EDGES[random.nextInt(EDGES.length)];
            case 1: return random.nextInt();
            default: return random.nextInt(10) - 1;
        }
    }
}
