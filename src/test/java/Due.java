import java.util.function.LongSupplier;

/** What the tests share: answers that are due, findings, and a look at all that an object tells. */
final class Due {
    static final int BEYOND = -1000000001;
    static final int FULL = -1000000002;
    static final int KIND = -1000000003;
    static final int NONE = -1000000004;
    static final int STATE = -1000000005;
    static final int MISSING = -1000000006;
    static final int SIZE = -1000000007;
    private static final int SHOWN = 40;

    private static int wrong = 0;

    private Due() {
    }

    static void is(String call, long got, long want) {
        if (got != want) {
            tellWrong(call + " answered " + got + ", due is " + want);
        }
    }

    static void holds(String what, boolean right) {
        if (!right) {
            tellWrong(what + " does not hold");
        }
    }

    private static void tellWrong(String line) {
        wrong++;
        if (wrong <= SHOWN) {
            System.out.println(line);
        }
    }

    /** The act answers the finding, which status() counts, and nothing else has changed. */
    static void refuses(NightDitch x, String call, LongSupplier act, int finding) {
        String before = look(x);
        int[] counted = statuses(x);
        is(call, act.getAsLong(), finding);
        int[] then = statuses(x);
        for (int which = -1; which < 7; which++) {
            boolean counts = which == -1 || which == BEYOND - finding;
            is("status(" + which + ") behind " + call, then[which + 1], counted[which + 1] + (counts ? 1 : 0));
        }
        holds("what stood before " + call, look(x).equals(before));
    }

    private static int[] statuses(NightDitch x) {
        int[] all = new int[8];
        for (int which = -1; which < 7; which++) {
            all[which + 1] = x.status(which);
        }
        return all;
    }

    /** All but status() and what is kept; parts that only acts tell are put back. */
    static String look(NightDitch x) {
        StringBuilder seen = new StringBuilder();
        for (int what = 0; what < 9; what++) {
            seen.append(x.count(what)).append(' ');
        }
        for (int what = 0; what < 5; what++) {
            int v = x.rule(what, 0);
            x.rule(what, v);
            seen.append(v).append(' ');
        }
        for (int farm = 0; farm < x.count(0); farm++) {
            for (int what = 0; what < 11; what++) {
                seen.append(x.of(farm, what)).append(' ');
            }
            seen.append(x.gives(farm)).append('\n');
        }
        for (int s = 0; s < 4; s++) {
            lookAtSheet(x, s, seen);
        }
        return seen.toString();
    }

    private static void lookAtSheet(NightDitch x, int s, StringBuilder seen) {
        for (int i = 0; i < 40; i++) {
            long v = x.write(s, i, 0);
            if (v == BEYOND || v == MISSING) {
                seen.append(v).append('\n');
                return;
            }
            x.write(s, i, v);
            seen.append(v).append(' ');
        }
    }

    static void feed(NightDitch x, String text) {
        for (int i = 0; i < text.length(); i++) {
            x.feed(text.charAt(i), 1);
        }
    }

    /** THE TEXT, from an empty TAPE: what text() answers; THE TAPE is empty behind it. */
    static int say(NightDitch x, String text) {
        x.wipe();
        feed(x, text);
        int answer = x.text();
        x.wipe();
        return answer;
    }

    static void end() {
        System.out.println(wrong == 0 ? "all answers are as due" : wrong + " answers are not as due");
        if (wrong != 0) {
            System.exit(1);
        }
    }
}
