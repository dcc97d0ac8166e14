import java.lang.reflect.Method;
import java.util.Arrays;
import java.util.Comparator;
import java.util.function.Supplier;
import java.util.function.ToLongFunction;
import java.util.regex.Matcher;
import java.util.regex.Pattern;

/** What the tests share: answers that are due, findings, and a look at all that an object tells. */
final class Due {
    static final int BEYOND = -1000000001;
    static final int FULL = -1000000002;
    static final int KIND = -1000000003;
    static final int NONE = -1000000004;
    static final int STATE = -1000000005;
    static final int MISSING = -1000000006;
    static final int SIZE = -1000000007;
    static final int MIN = Integer.MIN_VALUE;
    static final int MAX = Integer.MAX_VALUE;
    private static final int PROMISES = 40;
    private static final int SHOWN = 40;
    private static final Pattern NAMED = Pattern.compile("promise(\\d+)[A-Z]\\w*");

    private static int wrong = 0;
    private static String test = "";

    private Due() {
    }

    /** Runs each method named by a promise; each promise from the first to the last must have one. */
    static void run(Class<?> tests, int first, int last) throws ReflectiveOperationException {
        int[] ran = new int[PROMISES + 1];
        Method[] methods = tests.getDeclaredMethods();
        Arrays.sort(methods, Comparator.comparing(Method::getName));
        for (Method method : methods) {
            Matcher named = NAMED.matcher(method.getName());
            if (named.matches()) {
                test = method.getName() + ": ";
                method.invoke(null);
                ran[Integer.parseInt(named.group(1))]++;
            }
        }
        test = "";
        for (int promise = first; promise <= last; promise++) {
            holds("a test of promise " + promise, ran[promise] > 0);
        }
        System.out.println(tests.getName() + ": " + Arrays.stream(ran).sum() + " tests of promises");
    }

    static void is(String call, long got, long want) {
        if (got != want) {
            tellWrong(call + " answered " + got + ", due is " + want);
        }
    }

    static void holds(String what, boolean right) {
        if (!right) {
            tellWrong(what + " does not hold");
        }
    }

    private static void tellWrong(String line) {
        wrong++;
        if (wrong <= SHOWN) {
            System.out.println(test + line);
        }
    }

    /** The act answers the finding, status() counts it once, and all else is as in a twin that had no such act. */
    static void refuses(Supplier<NightDitch> made, String call, ToLongFunction<NightDitch> act, int finding) {
        NightDitch x = made.get();
        int[] counted = statuses(x);
        is(call, act.applyAsLong(x), finding);
        int[] then = statuses(x);
        for (int which = -1; which < 7; which++) {
            boolean counts = which == -1 || which == BEYOND - finding;
            is("status(" + which + ") behind " + call, then[which + 1], counted[which + 1] + (counts ? 1 : 0));
        }
        holds("that " + call + " changes nothing", lookThrough(x).equals(lookThrough(made.get())));
    }

    private static int[] statuses(NightDitch x) {
        int[] all = new int[8];
        for (int which = -1; which < 7; which++) {
            all[which + 1] = x.status(which);
        }
        return all;
    }

    /** As look(), and THE TAPE and what is kept too; the object is used up by it. */
    private static String lookThrough(NightDitch x) {
        return look(x) + x.text() + ' ' + x.gives(0) + ' ' + x.undo() + '\n' + look(x);
    }

    /** All but status(), THE TAPE's bytes and what is kept; parts that only acts tell are put back. */
    static String look(NightDitch x) {
        StringBuilder seen = new StringBuilder();
        for (int what = 0; what < 9; what++) {
            seen.append(x.count(what)).append(' ');
        }
        for (int what = 0; what < 5; what++) {
            seen.append(ruleOf(x, what)).append(' ');
        }
        for (int farm = 0; farm < x.count(0); farm++) {
            for (int what = 0; what < 11; what++) {
                seen.append(x.of(farm, what)).append(' ');
            }
            seen.append(x.gives(farm)).append('\n');
        }
        for (int s = 0; s < 4; s++) {
            lookAtSheet(x, s, seen);
        }
        return seen.toString();
    }

    /** What is written for the while tells of how many bits the numbers are. */
    private static void lookAtSheet(NightDitch x, int s, StringBuilder seen) {
        for (int i = 0; i < 40; i++) {
            long v = x.write(s, i, 70000);
            if (v == BEYOND || v == MISSING) {
                seen.append(v).append('\n');
                return;
            }
            seen.append(v).append(' ').append(x.write(s, i, v)).append(' ');
        }
    }

    static int ruleOf(NightDitch x, int what) {
        int v = x.rule(what, 0);
        x.rule(what, v);
        return v;
    }

    static void feed(NightDitch x, String text) {
        for (int i = 0; i < text.length(); i++) {
            x.feed(text.charAt(i), 1);
        }
    }

    /** THE TEXT, from an empty TAPE: what text() answers; THE TAPE is empty behind it. */
    static int say(NightDitch x, String text) {
        x.wipe();
        feed(x, text);
        int answer = x.text();
        x.wipe();
        return answer;
    }

    static void end() {
        System.out.println(wrong == 0 ? "all answers are as due" : wrong + " answers are not as due");
        if (wrong != 0) {
            System.exit(1);
        }
    }
}
