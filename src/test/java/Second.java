import java.util.ArrayList;
import java.util.Arrays;
import java.util.Collections;
import java.util.List;

/** The whole document told a second time: plain, slow, and in other ways than the class goes. */
final class Second {
    private static final long MILLION = 1000000;
    private static final long ALL_SEEN = 100 * MILLION;
    private static final int[] PARTS_MOST = {24, 999, 999, 100};
    private static final int[] RULE_MOST = {99999, 100, 999, 100, 100};
    private static final String[] LINES = {"0", "10", "20", "320", "420", "510"};

    private static final class Farm {
        int kind;
        int[] parts = new int[4];
        int purse = 0;
        int anger = 0;

        Farm copy() {
            Farm other = new Farm();
            other.kind = kind;
            other.parts = parts.clone();
            other.purse = purse;
            other.anger = anger;
            return other;
        }
    }

    /** All that sections 1 to 3 tell, but THE TAPE. */
    private static final class State {
        final List<Farm> farms = new ArrayList<>();
        final List<Integer> turns = new ArrayList<>();
        int year = 0;
        int dry = 1;
        int[] rule = {100, 50, 10, 0, 0};
        String text = "";
        int z = 1;
        int taken = 0;
        int seen = 0;

        State copy() {
            State other = new State();
            for (Farm farm : farms) {
                other.farms.add(farm.copy());
            }
            other.turns.addAll(turns);
            other.year = year;
            other.dry = dry;
            other.rule = rule.clone();
            other.text = text;
            other.z = z;
            other.taken = taken;
            other.seen = seen;
            return other;
        }
    }

    /** What is at REST in one place. */
    private static final class Rest {
        int owner;
        int taker;
        long wants;
        long pays;
        long given;
        long minds;
        long sees;
        long[] takes = {0, 1};
        long[] watches = {0, 1};
        long p;
        long q;
        long open;
        long lost;
    }

    private State now = new State();
    private State kept = null;
    private String tape = "";
    private final long[][] sheets = new long[4][];
    private final int[] bits = new int[4];
    private final int[] found = new int[7];

    /** Any call of the face, by its name. */
    long call(String name, long[] given) {
        long[] a = Arrays.copyOf(given, 5);
        long answer = farms(name, a);
        boolean tells = name.equals("status") || name.equals("seed") || name.equals("gives")
            || name.equals("write") || name.equals("count");
        if (!tells && answer <= Due.BEYOND && answer >= Due.SIZE) {
            found[(int) (Due.BEYOND - answer)]++;
        }
        return answer;
    }

    /** For calls whose answers may be like findings. */
    private long refuse(int finding) {
        found[Due.BEYOND - finding]++;
        return finding;
    }

    private static boolean in(long v, long least, long most) {
        return least <= v && v <= most;
    }

    private boolean isFarm(long v) {
        return in(v, 0, now.farms.size() - 1);
    }

    private long farms(String name, long[] a) {
        switch (name) {
            case "farm": return farm(a[0], a[1], a[2]);
            case "set": return set(a[0], a[1], a[2]);
            case "of": return isFarm(a[0]) && in(a[1], 0, 10) ? of((int) a[0], (int) a[1]) : Due.BEYOND;
            case "as":
                if (!isFarm(a[0]) || !in(a[1], 0, 5)) {
                    return Due.BEYOND;
                }
                int kind = now.farms.get((int) a[0]).kind;
                return LINES[kind].contains("" + a[1]) ? of((int) a[0], 8) : Due.KIND;
            case "rule":
                if (!in(a[0], 0, 4) || !in(a[1], 0, RULE_MOST[(int) a[0]])) {
                    return Due.BEYOND;
                }
                int was = now.rule[(int) a[0]];
                now.rule[(int) a[0]] = (int) a[1];
                return was;
            case "dry":
                if (!in(a[0], 1, 9)) {
                    return Due.BEYOND;
                }
                int dry = now.dry;
                now.dry = (int) a[0];
                return dry;
            case "year":
                if (now.year == 99) {
                    return Due.STATE;
                }
                now.farms.forEach(f -> f.anger -= f.anger > 0 ? 1 : 0);
                return ++now.year;
            default: return turns(name, a);
        }
    }

    private long farm(long kind, long hours, long worth) {
        if (!in(kind, 0, 5) || !in(hours, 1, 24) || !in(worth, 0, 999)) {
            return Due.BEYOND;
        }
        if (now.farms.size() == 8) {
            return Due.FULL;
        }
        Farm farm = new Farm();
        farm.kind = (int) kind;
        farm.parts = new int[] {(int) hours, (int) worth, 0, 0};
        now.turns.add(now.farms.size());
        now.farms.add(farm);
        return now.farms.size() - 1;
    }

    private long set(long farm, long what, long v) {
        if (!isFarm(farm) || !in(what, 0, 3) || !in(v, what == 0 ? 1 : 0, PARTS_MOST[(int) what])) {
            return Due.BEYOND;
        }
        int[] parts = now.farms.get((int) farm).parts;
        int was = parts[(int) what];
        parts[(int) what] = (int) v;
        return was;
    }

    private long of(int farm, int what) {
        Farm f = now.farms.get(farm);
        switch (what) {
            case 0: return f.kind;
            case 5: return f.purse;
            case 6: return f.anger;
            case 7: return pays(now, farm);
            case 8: return wants(now, farm);
            case 9: return minds(f);
            case 10: return now.turns.indexOf(farm);
            default: return f.parts[what - 1];
        }
    }

    private static long pays(State s, int farm) {
        long worth = s.farms.get(farm).parts[1];
        if (s.text.isEmpty()) {
            return worth;
        }
        return Math.max(0, Math.min(99999, worth * value(s, farm, s.text) / 100));
    }

    private static long wants(State s, int farm) {
        Farm f = s.farms.get(farm);
        long gain = pays(s, farm);
        long more = 0;
        for (int anger = 1; anger <= f.anger && anger <= 4; anger++) {
            more += gain / 2;
        }
        switch (f.kind) {
            case 1: return 0;
            case 3: return gain + more;
            case 4: return gain * s.dry;
            case 5: return 0;
            default: return gain;
        }
    }

    private static long minds(Farm f) {
        int sleep = f.parts[2];
        return f.kind == 5 ? sleep / 2 : f.kind == 3 ? Math.max(0, sleep - 10 * f.anger) : sleep;
    }

    // ---- turns

    private long turns(String name, long[] a) {
        switch (name) {
            case "turn": return isFarm(a[0]) ? now.turns.get((int) a[0]) : Due.BEYOND;
            case "swap":
                if (!isFarm(a[0]) || !isFarm(a[1])) {
                    return Due.BEYOND;
                }
                Collections.swap(now.turns, (int) a[0], (int) a[1]);
                return now.turns.get((int) a[0]);
            case "turns": return putTurns(a[0]);
            case "told": return now.farms.isEmpty() ? Due.NONE : number(now.turns);
            case "best": return best(a[0]);
            case "share":
                return isFarm(a[0]) ? 100 * now.farms.get((int) a[0]).parts[0] / hours() : Due.BEYOND;
            default: return atRest(name, a);
        }
    }

    private int hours() {
        return now.farms.stream().mapToInt(f -> f.parts[0]).sum();
    }

    private static int number(List<Integer> turns) {
        int number = 0;
        for (int farm : turns) {
            number = 8 * number + farm;
        }
        return number;
    }

    private long putTurns(long number) {
        int farms = now.farms.size();
        String digits = Long.toString(number, 8);
        if (number < 0 || digits.length() > Math.max(farms, 1) || farms == 0 && number > 0) {
            return Due.BEYOND;
        }
        digits = farms == 0 ? "" : "0".repeat(farms - digits.length()) + digits;
        for (int farm = 0; farm < farms; farm++) {
            if (digits.indexOf('0' + farm) < 0) {
                return Due.KIND;
            }
        }
        now.turns.clear();
        digits.chars().forEach(c -> now.turns.add(c - '0'));
        return 1;
    }

    private long best(long what) {
        if (!in(what, 0, 1)) {
            return Due.BEYOND;
        }
        if (!in(now.farms.size(), 2, 7)) {
            return Due.NONE;
        }
        long[] best = {0, Long.MAX_VALUE};
        State would = now.copy();
        would.turns.clear();
        tryOrders(would, best);
        return best[(int) what];
    }

    private static void tryOrders(State would, long[] best) {
        if (would.turns.size() == would.farms.size()) {
            long lost = lost(would);
            if (lost < best[1]) {
                best[0] = number(would.turns);
                best[1] = lost;
            }
            return;
        }
        for (int farm = 0; farm < would.farms.size(); farm++) {
            if (!would.turns.contains(farm)) {
                would.turns.add(farm);
                tryOrders(would, best);
                would.turns.remove(would.turns.size() - 1);
            }
        }
    }

    // ---- at rest

    private static List<Rest> rests(State s) {
        List<Rest> all = new ArrayList<>();
        int farms = s.farms.size();
        for (int place = 0; place < farms && farms > 1; place++) {
            all.add(rest(s, s.turns.get(place), s.turns.get((place + 1) % farms)));
        }
        return all;
    }

    private static Rest rest(State s, int owner, int taker) {
        Rest r = new Rest();
        r.owner = owner;
        r.taker = taker;
        r.wants = wants(s, taker);
        r.pays = pays(s, owner);
        r.given = (long) s.rule[0] * s.rule[1] / 100;
        r.minds = minds(s.farms.get(owner));
        r.sees = Math.min(100, s.farms.get(owner).parts[3] + s.rule[3]);
        long saved = r.sees * (r.pays + r.given);
        long risked = r.sees * (r.wants + s.rule[0]);
        if (r.wants != 0) {
            boolean sleeps = 100 * r.minds >= saved;
            boolean dares = 100 * r.wants >= risked;
            r.takes = sleeps || dares ? new long[] {1, 1} : lowest(100 * r.minds, saved);
            r.watches = sleeps ? new long[] {0, 1} : dares ? new long[] {1, 1} : lowest(100 * r.wants, risked);
        }
        r.p = MILLION * r.takes[0] / r.takes[1];
        r.q = MILLION * r.watches[0] / r.watches[1];
        r.open = r.p * (ALL_SEEN - r.q * r.sees) / ALL_SEEN;
        r.lost = r.q * r.minds + r.open * s.rule[2];
        return r;
    }

    private static long[] lowest(long above, long below) {
        long a = above;
        long b = below;
        while (b != 0) {
            long rest = a % b;
            a = b;
            b = rest;
        }
        return new long[] {above / a, below / a};
    }

    private static long lost(State s) {
        return rests(s).stream().mapToLong(r -> r.lost).sum();
    }

    private static long greatest(State s) {
        return rests(s).stream().mapToLong(r -> r.p).max().orElse(0);
    }

    private long atRest(String name, long[] a) {
        switch (name) {
            case "rest": return tell(a[0], a[1]);
            case "lost":
                List<Rest> all = rests(now);
                return a[0] == -1 ? lost(now) : in(a[0], 0, all.size() - 1) ? all.get((int) a[0]).lost : Due.BEYOND;
            case "least": return in(a[0], 0, MILLION) ? least(a[0]) : Due.BEYOND;
            case "hire":
                State hired = now.copy();
                hired.rule[3] += in(a[0], 0, 100) ? (int) a[0] : 0;
                return in(a[0], 0, 100) ? lost(now) - lost(hired) : Due.BEYOND;
            case "breaks": return in(a[0], 0, MILLION) ? breaks(a[0]) : Due.BEYOND;
            case "blame":
                if (!isFarm(a[0]) || now.farms.size() == 1) {
                    return isFarm(a[0]) ? Due.NONE : Due.BEYOND;
                }
                long open = rests(now).get((int) a[0]).open;
                long both = open + 10000L * now.rule[4];
                return both == 0 ? 0 : MILLION * open / both;
            case "always":
                return rests(now).stream().filter(r -> r.takes[0] == r.takes[1]).mapToLong(r -> 1L << r.taker).sum();
            default: return text(name, a);
        }
    }

    private long tell(long place, long what) {
        if (!isFarm(place) || !in(what, 0, 6)) {
            return Due.BEYOND;
        }
        if (now.farms.size() == 1) {
            return Due.NONE;
        }
        Rest r = rests(now).get((int) place);
        return new long[] {r.takes[0], r.takes[1], r.watches[0], r.watches[1], r.p, r.q, r.open}[(int) what];
    }

    /** P of each FINE in turn: WANTS and PAYS are as they are with any. */
    private long least(long most) {
        List<Rest> rests = rests(now);
        for (long fine = 0; fine <= 99999; fine++) {
            long given = fine * now.rule[1] / 100;
            boolean enough = true;
            for (Rest r : rests) {
                long saved = r.sees * (r.pays + given);
                boolean all = 100 * r.minds >= saved || 100 * r.wants >= r.sees * (r.wants + fine);
                long p = r.wants == 0 ? 0 : all ? MILLION : MILLION * 100 * r.minds / saved;
                enough &= p <= most;
            }
            if (enough) {
                return fine;
            }
        }
        return Due.NONE;
    }

    private long breaks(long most) {
        State drier = now.copy();
        for (drier.dry = 1; drier.dry <= 9; drier.dry++) {
            if (greatest(drier) > most) {
                return drier.dry;
            }
        }
        return Due.NONE;
    }

    // ---- the text

    private long text(String name, long[] a) {
        switch (name) {
            case "feed":
                if (!in(a[1], 1, 4) || tape.length() + a[1] > 60) {
                    return in(a[1], 1, 4) ? Due.FULL : Due.BEYOND;
                }
                for (long i = a[1]; i > 0; i--) {
                    tape += (char) ((a[0] >> 8 * (i - 1)) & 255);
                }
                return tape.length();
            case "wipe":
                int had = tape.length();
                tape = "";
                return had;
            case "text":
                int answer = CrossTest.faultOf(tape);
                now.text = answer == 0 ? tape : now.text;
                tape = answer == 0 ? "" : tape;
                return answer;
            case "plain":
                int was = now.text.isEmpty() ? 0 : 1;
                now.text = "";
                return was;
            case "gives":
                if (!isFarm(a[0])) {
                    return refuse(Due.BEYOND);
                }
                return now.text.isEmpty() ? 100 : value(now, (int) a[0], now.text);
            default: return nights(name, a);
        }
    }

    /** A text is cut at the last sign that binds least. */
    private static int value(State s, int farm, String e) {
        int cut = lastSign(e, "+-");
        cut = cut < 0 ? lastSign(e, "*/") : cut;
        if (cut > 0) {
            int left = value(s, farm, e.substring(0, cut));
            int right = value(s, farm, e.substring(cut + 1));
            switch (e.charAt(cut)) {
                case '+': return left + right;
                case '-': return left - right;
                case '*': return left * right;
                default: return right == 0 ? 0 : left / right;
            }
        }
        String inside = e.substring(1, Math.max(1, e.length() - 1));
        switch (e.charAt(0)) {
            case '-': return -value(s, farm, e.substring(1));
            case '(': return inBrackets(s, farm, inside);
            case 'd': return s.dry;
            case 'y': return s.year;
            case 'h': return s.farms.get(farm).parts[0];
            case 'i': return farm;
            case 'n': return s.farms.size();
            case 'o': return s.turns.indexOf(farm);
            default: return Integer.parseInt(e);
        }
    }

    private static int inBrackets(State s, int farm, String inside) {
        int below = lastSign(inside, "<");
        if (below < 0) {
            return value(s, farm, inside);
        }
        int then = lastSign(inside, "?");
        int other = lastSign(inside, ":");
        boolean is = value(s, farm, inside.substring(0, below)) < value(s, farm, inside.substring(below + 1, then));
        return value(s, farm, is ? inside.substring(then + 1, other) : inside.substring(other + 1));
    }

    /** Outside of brackets, and behind something: a - that nothing stands before is no sign between two. */
    private static int lastSign(String e, String signs) {
        int open = 0;
        for (int i = e.length() - 1; i > 0; i--) {
            char c = e.charAt(i);
            open += c == ')' ? 1 : c == '(' ? -1 : 0;
            if (open == 0 && signs.indexOf(c) >= 0 && "+-*/<?:(".indexOf(e.charAt(i - 1)) < 0) {
                return i;
            }
        }
        return -1;
    }

    // ---- nights

    private long nights(String name, long[] a) {
        switch (name) {
            case "seed":
                int was = now.z;
                now.z = (int) a[0];
                return was;
            case "nights":
                return in(a[0], 1, 50) ? pass(now, a[0]) : Due.BEYOND;
            case "ahead":
                if (!in(a[0], 1, 50) || !in(a[1], 0, 1 + now.farms.size())) {
                    return Due.BEYOND;
                }
                State then = now.copy();
                long taken = pass(then, a[0]);
                return a[1] == 0 ? taken : a[1] == 1 ? then.seen - now.seen : then.farms.get((int) a[1] - 2).purse;
            case "purse":
                if (!in(a[0], 0, 1) || now.farms.isEmpty()) {
                    return in(a[0], 0, 1) ? Due.NONE : Due.BEYOND;
                }
                List<Integer> purses = new ArrayList<>();
                now.farms.forEach(f -> purses.add(f.purse));
                return purses.indexOf(a[0] == 0 ? Collections.max(purses) : Collections.min(purses));
            default: return sheets(name, a);
        }
    }

    private static long pass(State s, long nights) {
        int before = s.taken;
        for (long night = 0; night < nights; night++) {
            for (Rest r : rests(s)) {
                boolean takes = draw(s) % MILLION < r.p;
                boolean watches = draw(s) % MILLION < r.q;
                boolean sees = draw(s) % 100 < r.sees;
                Farm owner = s.farms.get(r.owner);
                Farm taker = s.farms.get(r.taker);
                boolean caught = takes && watches && sees;
                owner.purse -= watches ? r.minds : 0;
                owner.purse += caught ? r.given : takes ? -r.pays : 0;
                taker.purse += caught ? -s.rule[0] : takes ? r.wants : 0;
                taker.anger = caught ? 0 : taker.anger;
                owner.anger = takes && !caught ? Math.min(9, owner.anger + 1) : owner.anger;
                s.taken += takes ? 1 : 0;
                s.seen += caught ? 1 : 0;
            }
        }
        return s.taken - before;
    }

    private static long draw(State s) {
        s.z = s.z * 1103515245 + 12345;
        return s.z >>> 8;
    }

    // ---- sheets

    private boolean isSheet(long s) {
        return in(s, 0, 3);
    }

    private boolean isMissing(long s) {
        return bits[(int) s] == 0;
    }

    private long sheets(String name, long[] a) {
        switch (name) {
            case "sheet": return sheet(a[0], a[1], a[2]);
            case "write": return write(a[0], a[1], a[2]);
            case "copy": return copy(a);
            case "worths":
            case "read":
                if (!isSheet(a[0]) || isMissing(a[0])) {
                    return isSheet(a[0]) ? Due.MISSING : Due.BEYOND;
                }
                return name.equals("read") ? read(sheets[(int) a[0]]) : worths(sheets[(int) a[0]]);
            default: return images(name, a);
        }
    }

    private long sheet(long s, long width, long n) {
        if (!isSheet(s) || width != 0 && width != 8 && width != 16 && width != 64) {
            return Due.BEYOND;
        }
        if (!in(n, 0, 40)) {
            return n < 0 ? Due.SIZE : Due.BEYOND;
        }
        bits[(int) s] = (int) width;
        sheets[(int) s] = new long[width == 0 ? 0 : (int) n];
        return sheets[(int) s].length;
    }

    private long write(long s, long i, long v) {
        if (!isSheet(s)) {
            return refuse(Due.BEYOND);
        }
        if (isMissing(s)) {
            return refuse(Due.MISSING);
        }
        if (!in(i, 0, sheets[(int) s].length - 1)) {
            return refuse(Due.BEYOND);
        }
        long was = sheets[(int) s][(int) i];
        int above = 64 - bits[(int) s];
        sheets[(int) s][(int) i] = v << above >> above;
        return was;
    }

    private long copy(long[] a) {
        if (!isSheet(a[0]) || !isSheet(a[2])) {
            return Due.BEYOND;
        }
        if (isMissing(a[0]) || isMissing(a[2])) {
            return Due.MISSING;
        }
        if (bits[(int) a[0]] != bits[(int) a[2]]) {
            return Due.KIND;
        }
        long[] from = sheets[(int) a[0]].clone();
        long[] to = sheets[(int) a[2]];
        if (a[1] < 0 || a[3] < 0 || a[4] < 0 || a[1] + a[4] > from.length || a[3] + a[4] > to.length) {
            return Due.BEYOND;
        }
        for (int i = 0; i < a[4]; i++) {
            to[(int) a[3] + i] = from[(int) a[1] + i];
        }
        return a[4];
    }

    private long worths(long[] numbers) {
        int came = 0;
        for (int farm = 0; farm < now.farms.size() && farm < numbers.length; farm++) {
            if (in(numbers[farm], 0, 999)) {
                now.farms.get(farm).parts[1] = (int) numbers[farm];
                came++;
            }
        }
        return came;
    }

    private long read(long[] numbers) {
        List<Rest> meets = rests(now);
        for (int i = 0; i < numbers.length; i++) {
            if (i >= meets.size() || meets.get(i).p != numbers[i]) {
                return 1 + i;
            }
        }
        return 0;
    }

    // ---- images

    private long images(String name, long[] a) {
        switch (name) {
            case "image":
                kept = now.copy();
                return 1;
            case "undo":
                now = kept == null ? now : kept.copy();
                return kept == null ? Due.NONE : now.farms.size();
            case "tear":
                int was = kept == null ? 0 : 1;
                kept = null;
                return was;
            case "count":
                int[] counts = {now.farms.size(), now.year, now.dry, now.taken, now.seen,
                    now.text.isEmpty() ? 0 : 1, tape.length(), now.z, hours()};
                return in(a[0], 0, 8) ? counts[(int) a[0]] : refuse(Due.BEYOND);
            case "status":
                if (!in(a[0], -1, 6)) {
                    return refuse(Due.BEYOND);
                }
                return a[0] < 0 ? Arrays.stream(found).sum() : found[(int) a[0]];
            default: throw new IllegalArgumentException(name);
        }
    }
}
