import java.lang.reflect.InvocationTargetException;
import java.lang.reflect.Method;
import java.lang.reflect.Modifier;
import java.util.Arrays;
import java.util.Comparator;
import java.util.Random;

/** Any arguments in any state: no call throws, and a finding changes nothing but status(). */
public final class WildTest {
    private static final int[] EDGES = {
        Integer.MIN_VALUE, Integer.MIN_VALUE + 1, -1000000001, -9, -2, -1, 0, 1, 2, 3, 4, 5, 6, 7, 8, 9,
        10, 11, 16, 24, 25, 40, 41, 50, 51, 60, 64, 65, 99, 100, 101, 999, 1000, 99999, 100000, 999999,
        1000000, 1000001, 16777215, 16777216, Integer.MAX_VALUE - 1, Integer.MAX_VALUE,
    };
    private static final String SIGNS = "0159dyhino+-*/()<?:(-(-";

    public static void main(String[] args) throws ReflectiveOperationException {
        Method[] methods = Arrays.stream(NightDitch.class.getDeclaredMethods())
            .filter(m -> Modifier.isPublic(m.getModifiers()))
            .sorted(Comparator.comparing(Method::getName)).toArray(Method[]::new);
        Random random = new Random(29);
        for (int round = 0; round < 400; round++) {
            NightDitch x = random.nextBoolean() ? new NightDitch()
                : RandomDitch.make(random, 1 + random.nextInt(8));
            for (int call = 0; call < 512; call++) {
                callOne(x, methods[random.nextInt(methods.length)], random);
            }
        }
        Due.end();
    }

    private static void callOne(NightDitch x, Method method, Random random) throws IllegalAccessException {
        Object[] given = new Object[method.getParameterCount()];
        for (int i = 0; i < given.length; i++) {
            int v = argument(method.getName(), i, random);
            given[i] = method.getParameterTypes()[i] == long.class ? (Object) (random.nextLong() ^ v) : (Object) v;
        }
        String call = method.getName() + Arrays.toString(given);
        int findings = x.status(-1);
        boolean looks = random.nextInt(10) == 0;
        String before = looks ? Due.look(x) : "";
        findings += looks ? x.status(-1) - findings : 0;
        try {
            method.invoke(x, given);
        } catch (InvocationTargetException thrown) {
            Due.holds(call + ", which threw " + thrown.getCause() + ",", false);
        }
        int more = x.status(-1) - findings;
        Due.holds("that " + call + " counts one finding at most", more == 0 || more == 1);
        Due.holds("what stood before " + call, !looks || more == 0 || Due.look(x).equals(before));
    }

    private static int argument(String name, int i, Random random) {
        if (name.equals("feed") && random.nextInt(10) > 0) {
            return i == 1 ? 1 : SIGNS.charAt(random.nextInt(SIGNS.length()));
        }
        switch (random.nextInt(4)) {
            case 0: return EDGES[random.nextInt(EDGES.length)];
            case 1: return random.nextInt();
            default: return random.nextInt(10) - 1;
        }
    }
}
