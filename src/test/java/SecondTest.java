import java.lang.reflect.Method;
import java.lang.reflect.Modifier;
import java.util.ArrayDeque;
import java.util.Arrays;
import java.util.Deque;
import java.util.Map;
import java.util.Random;
import java.util.TreeMap;

/** Long runs of calls by chance: each answer is what the second telling answers. */
public final class SecondTest {
    private static final int CALLS = 500;
    private static final long MILLION = 1000000;
    private static final long[] WILD = {
        Integer.MIN_VALUE, -1000000001, -2, -1, 0, 1, 7, 8, 9, 40, 41, 60, 99, 100, 101, 1000, 1000001, Integer.MAX_VALUE,
    };
    private static final String SIGNS = "0159dyhino+-*/()<?:(-(-x ";
    private static final int[] BITS = {16, 16, 16, 16, 64, 64, 8, 0};
    private static final long[] WIPE = {};
    private static final long[] TEXT = {};
    private static final String[] DEAR = {"best", "least", "nights", "ahead"};
    private static final Map<String, Method> FACE = face();
    private static final Map<String, int[]> told = new TreeMap<>();

    private final Random random;
    private final NightDitch x = new NightDitch();
    private final Second second = new Second();
    /** What is asked next, before anything by chance. */
    private final Deque<long[]> fed = new ArrayDeque<>();
    private final StringBuilder before = new StringBuilder();
    private final int sleepMost;

    private SecondTest(long seed) {
        random = new Random(seed);
        sleepMost = random.nextBoolean() ? 60 : 999;
    }

    public static void main(String[] args) throws ReflectiveOperationException {
        int runs = args.length > 0 ? Integer.parseInt(args[0]) : 250;
        for (long seed = 0; seed < runs; seed++) {
            new SecondTest(seed).run(seed);
        }
        for (String name : FACE.keySet()) {
            int[] counts = told.getOrDefault(name, new int[2]);
            Due.holds("that " + name + " is asked often: " + Arrays.toString(counts), counts[0] >= runs);
        }
        Due.end();
    }

    private static Map<String, Method> face() {
        Map<String, Method> face = new TreeMap<>();
        for (Method method : NightDitch.class.getDeclaredMethods()) {
            if (Modifier.isPublic(method.getModifiers())) {
                face.put(method.getName(), method);
            }
        }
        return face;
    }

    private void run(long seed) throws ReflectiveOperationException {
        int farms = random.nextInt(10);
        for (int call = 0; call < CALLS; call++) {
            boolean right = call < farms ? ask("farm", random.nextInt(6), 1 + random.nextInt(24), worth()) : askAny();
            if (!right) {
                System.out.println("run " + seed + ", call " + call + ":" + before);
                return;
            }
        }
    }

    private boolean askAny() throws ReflectiveOperationException {
        if (!fed.isEmpty()) {
            long[] next = fed.poll();
            return next == WIPE ? ask("wipe") : next == TEXT ? ask("text") : ask("feed", next);
        }
        if (random.nextInt(25) == 0) {
            feedText();
        }
        String[] names = FACE.keySet().toArray(new String[0]);
        String name = names[random.nextInt(names.length)];
        for (String dear : DEAR) {
            if (name.equals(dear) && random.nextInt(3) > 0) {
                return ask("set", random.nextInt(8), 1 + random.nextInt(3), random.nextInt(101));
            }
        }
        // These few would make all else rare.
        boolean rare = name.equals("plain") || name.equals("undo") || name.equals("farm") || name.equals("wipe");
        if (rare && random.nextInt(4) > 0) {
            name = "rest";
        }
        long[] given = new long[FACE.get(name).getParameterCount()];
        for (int i = 0; i < given.length; i++) {
            given[i] = random.nextInt(30) == 0 ? WILD[random.nextInt(WILD.length)] : argument(name, i, given);
        }
        return ask(name, given);
    }

    private boolean ask(String name, long... given) throws ReflectiveOperationException {
        Method method = FACE.get(name);
        Object[] as = new Object[given.length];
        for (int i = 0; i < given.length; i++) {
            as[i] = method.getParameterTypes()[i] == long.class ? (Object) given[i] : (Object) (int) given[i];
        }
        String call = name + Arrays.toString(given);
        before.append(' ').append(call);
        long due = second.call(name, given);
        long got = ((Number) method.invoke(x, as)).longValue();
        int[] counts = told.computeIfAbsent(name, n -> new int[2]);
        counts[due <= Due.BEYOND && due >= Due.SIZE ? 1 : 0]++;
        Due.is(call, got, due);
        return got == due;
    }

    private int worth() {
        return random.nextInt(4) == 0 ? RandomDitch.pick(random, 999) : random.nextInt(120);
    }

    private long argument(String name, int i, long[] given) {
        switch (name) {
            case "farm": return i == 0 ? random.nextInt(6) : i == 1 ? 1 + random.nextInt(24) : worth();
            case "set": return i == 0 ? place() : i == 1 ? random.nextInt(4) : part(given[1]);
            case "of": return i == 0 ? place() : random.nextInt(11);
            case "as": return i == 0 ? place() : random.nextInt(6);
            case "rule": return i == 0 ? random.nextInt(5) : rule(given[0]);
            case "dry": return 1 + random.nextInt(9);
            case "turns": return turns();
            case "best":
            case "purse": return random.nextInt(2);
            case "rest": return i == 0 ? place() : random.nextInt(7);
            case "lost": return place() - 1;
            case "least":
            case "breaks": return random.nextInt(3) == 0 ? MILLION - random.nextInt(2) : random.nextInt((int) MILLION);
            case "hire": return random.nextInt(101);
            case "feed": return i == 0 ? random.nextInt() : 1 + random.nextInt(4);
            case "seed": return random.nextInt();
            case "nights": return 1 + random.nextInt(12);
            case "ahead": return i == 0 ? 1 + random.nextInt(50) : random.nextInt(10);
            case "count": return random.nextInt(9);
            case "status": return random.nextInt(8) - 1;
            case "sheet":
            case "write":
            case "copy":
            case "worths":
            case "read": return onSheets(name, i, given);
            default: return place();
        }
    }

    /** Asked of the second telling, since the object is good for 512 calls alone. */
    private int farms() {
        return (int) second.call("count", new long[] {0});
    }

    private int place() {
        return random.nextInt(8) == 0 ? random.nextInt(8) : random.nextInt(Math.max(1, farms()));
    }

    private long part(long what) {
        switch ((int) what) {
            case 0: return 1 + random.nextInt(24);
            case 1: return worth();
            case 2: return random.nextInt(sleepMost + 1);
            default: return RandomDitch.pick(random, 100);
        }
    }

    private long rule(long what) {
        switch ((int) what) {
            case 0: return random.nextInt(4) == 0 ? RandomDitch.pick(random, 99999) : random.nextInt(600);
            case 2: return random.nextInt(1000);
            case 3: return random.nextBoolean() ? 0 : random.nextInt(101);
            default: return random.nextInt(101);
        }
    }

    /** Those of an order, most often. */
    private long turns() {
        int farms = farms();
        long number = 0;
        int used = 0;
        for (int place = 0; place < farms; place++) {
            int farm = random.nextInt(farms);
            while ((used >> farm & 1) == 1) {
                farm = (farm + 1) % farms;
            }
            used |= 1 << farm;
            number = 8 * number + farm;
        }
        return random.nextInt(5) == 0 ? number + random.nextInt(9) : number;
    }

    private long onSheets(String name, int i, long[] given) {
        switch (name + i) {
            case "sheet1": return BITS[random.nextInt(BITS.length)];
            case "sheet2": return 3 + random.nextInt(12);
            case "write1": return random.nextInt(10);
            case "write2": return random.nextBoolean() ? atRest(given[1]) : random.nextLong() >> random.nextInt(64);
            case "copy1":
            case "copy3":
            case "copy4": return random.nextInt(6);
            default: return random.nextInt(4);
        }
    }

    /** P of a place, so that THE READER finds some that are right. */
    private long atRest(long place) {
        int farms = farms();
        return farms > 1 && place >= 0 && place < farms ? second.call("rest", new long[] {place, 4}) : worth();
    }

    /** A text, or nearly one, is fed in pieces of 1 to 4 bytes; then it is made THE TEXT. */
    private void feedText() {
        String text = random.nextInt(4) == 0 ? grown(4) : "60+" + grown(3);
        if (random.nextInt(5) == 0) {
            int at = random.nextInt(text.length());
            text = text.substring(0, at) + SIGNS.charAt(random.nextInt(SIGNS.length())) + text.substring(at + 1);
        }
        fed.add(WIPE);
        for (int at = 0; at < text.length(); ) {
            int n = Math.min(text.length() - at, 1 + random.nextInt(4));
            int bytes = random.nextInt();
            for (int i = 0; i < n; i++) {
                bytes = bytes << 8 | text.charAt(at + i);
            }
            fed.add(new long[] {bytes, n});
            at += n;
        }
        fed.add(TEXT);
    }

    private String grown(int room) {
        switch (random.nextInt(room > 0 ? 8 : 3)) {
            case 0: return "" + random.nextInt(200);
            case 1:
            case 2: return "dyhino".charAt(random.nextInt(6)) + "";
            case 3: return "-" + grown(0);
            case 4: return "(" + grown(room - 1) + "<" + grown(room - 1) + "?" + grown(room - 1) + ":" + grown(0) + ")";
            case 5: return "(" + grown(room - 1) + ")";
            default: return grown(room - 1) + "+-*/".charAt(random.nextInt(4)) + grown(room - 1);
        }
    }
}
