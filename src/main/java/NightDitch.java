/**
 * Farms down a ditch that have its water by turns, and take it early at night.
 * All rows are made with the object and used again, so that no call makes an object.
 */
public final class NightDitch {
    private static final int BEYOND = -1000000001;
    private static final int FULL = -1000000002;
    private static final int KIND = -1000000003;
    private static final int NONE = -1000000004;
    private static final int STATE = -1000000005;
    private static final int MISSING = -1000000006;
    private static final int SIZE = -1000000007;
    private static final int FINDINGS = 7;

    private static final int FARMER = 0;
    private static final int HONEST = 1;
    private static final int GAIN = 2;
    private static final int GRUDGE = 3;
    private static final int TAIL = 4;
    private static final int PAID = 5;
    private static final int KINDS = 6;
    private static final int[] UNDER = {-1, FARMER, FARMER, GAIN, GAIN, HONEST};

    private static final int FINE = 0;
    private static final int GIVES = 1;
    private static final int SPILL = 2;
    private static final int MAN = 3;
    private static final int LEAK = 4;
    private static final int RULES = 5;
    private static final int[] RULE_MOST = {99999, 100, 999, 100, 100};

    /** HOURS, WORTH, SLEEP, SEES: as set() numbers them. */
    private static final int[] FARM_LEAST = {1, 0, 0, 0};
    private static final int[] FARM_MOST = {24, 999, 999, 100};

    private static final int MOST_FARMS = 8;
    private static final int MOST_ORDERED = 7;
    private static final int MOST_PAYS = 99999;
    private static final int MOST_FINE = 99999;
    private static final int MOST_DRY = 9;
    private static final int LAST_YEAR = 99;
    private static final int MOST_ANGER = 9;
    private static final int MOST_GRUDGE = 4;
    private static final int MOST_NIGHTS = 50;
    private static final int MILLION = 1000000;

    private static final long MORE_THAN_IS_LOST = 1L << 60;

    private static final int MOST_BYTES = 60;
    private static final int MOST_DIGITS = 4;
    private static final int MOST_OPEN = 5;
    private static final int NEGATE = '~';
    private static final int CHOOSE = '?';

    private static final int SHEETS = 4;
    private static final int MOST_NUMBERS = 40;

    private final Ditch now = new Ditch();
    private final Ditch kept = new Ditch();
    /** A copy of now in which something is otherwise: what would be. */
    private final Ditch trial = new Ditch();
    private final Orders orders = new Orders();
    private final Tape tape = new Tape();
    private final Sheets sheets = new Sheets();
    private final int[] findings = new int[FINDINGS];
    private boolean isKept = false;

    public NightDitch() {
    }

    // ---- farms

    public int farm(int kind, int hours, int worth) {
        if (!isWithin(kind, 0, KINDS - 1) || !isPart(0, hours) || !isPart(1, worth)) {
            return finding(BEYOND);
        }
        if (now.count >= MOST_FARMS) {
            return finding(FULL);
        }
        return now.settleFarm(kind, hours, worth);
    }

    public int set(int farm, int what, int v) {
        if (!now.hasFarm(farm) || !isWithin(what, 0, FARM_MOST.length - 1) || !isPart(what, v)) {
            return finding(BEYOND);
        }
        return now.farms[farm].change(what, v);
    }

    public int of(int farm, int what) {
        if (!now.hasFarm(farm) || !isWithin(what, 0, 10)) {
            return finding(BEYOND);
        }
        switch (what) {
            case 7: return now.paysOf(farm);
            case 8: return now.wantsOf(farm);
            case 9: return now.farms[farm].minds();
            case 10: return now.placeOf(farm);
            default: return now.farms[farm].tell(what);
        }
    }

    public int as(int farm, int kind) {
        if (!now.hasFarm(farm) || !isWithin(kind, 0, KINDS - 1)) {
            return finding(BEYOND);
        }
        if (!now.farms[farm].isOf(kind)) {
            return finding(KIND);
        }
        return now.wantsOf(farm);
    }

    public int rule(int what, int v) {
        if (!isWithin(what, 0, RULES - 1) || !isWithin(v, 0, RULE_MOST[what])) {
            return finding(BEYOND);
        }
        int before = now.rules[what];
        now.rules[what] = v;
        return before;
    }

    public int dry(int v) {
        if (!isWithin(v, 1, MOST_DRY)) {
            return finding(BEYOND);
        }
        int before = now.dry;
        now.dry = v;
        return before;
    }

    public int year() {
        if (now.year >= LAST_YEAR) {
            return finding(STATE);
        }
        now.passYear();
        return now.year;
    }

    // ---- turns

    public int turn(int place) {
        if (!now.hasFarm(place)) {
            return finding(BEYOND);
        }
        return now.order[place];
    }

    public int swap(int a, int b) {
        if (!now.hasFarm(a) || !now.hasFarm(b)) {
            return finding(BEYOND);
        }
        int first = now.order[a];
        now.order[a] = now.order[b];
        now.order[b] = first;
        return now.order[a];
    }

    public int turns(int number) {
        if (number < 0 || number >= 1 << 3 * now.count) {
            return finding(BEYOND);
        }
        if (!now.isOrder(number)) {
            return finding(KIND);
        }
        now.putOrder(number);
        return 1;
    }

    public int told() {
        if (now.count == 0) {
            return finding(NONE);
        }
        return now.orderNumber();
    }

    public long best(int what) {
        if (!isWithin(what, 0, 1)) {
            return finding(BEYOND);
        }
        if (!isWithin(now.count, 2, MOST_ORDERED)) {
            return finding(NONE);
        }
        orders.search(now);
        return what == 0 ? orders.leastNumber : orders.leastLost;
    }

    public int share(int farm) {
        if (!now.hasFarm(farm)) {
            return finding(BEYOND);
        }
        int all = now.allHours();
        return all == 0 ? 0 : now.farms[farm].hours * 100 / all;
    }

    // ---- at rest

    public int rest(int place, int what) {
        if (!now.hasFarm(place) || !isWithin(what, 0, 6)) {
            return finding(BEYOND);
        }
        if (now.meetCount() == 0) {
            return finding(NONE);
        }
        now.weigh();
        return now.meets[place].tell(what);
    }

    public long lost(int place) {
        if (!isWithin(place, -1, now.meetCount() - 1)) {
            return finding(BEYOND);
        }
        now.weigh();
        return place < 0 ? now.loses() : now.meets[place].loses(now.rules[SPILL]);
    }

    public int least(int most) {
        if (!isWithin(most, 0, MILLION)) {
            return finding(BEYOND);
        }
        trial.become(now);
        if (trial.takesAtMost(MOST_FINE) > most) {
            return finding(NONE);
        }
        // No P grows with FINE, so halving finds the first FINE that is enough.
        int low = 0;
        int high = MOST_FINE;
        for (int step = 0; low < high && step < 32; step++) {
            int middle = (low + high) / 2;
            if (trial.takesAtMost(middle) > most) {
                low = middle + 1;
            } else {
                high = middle;
            }
        }
        return low;
    }

    public long hire(int more) {
        if (!isWithin(more, 0, 100)) {
            return finding(BEYOND);
        }
        now.weigh();
        trial.become(now);
        trial.rules[MAN] += more;
        trial.weigh();
        return now.loses() - trial.loses();
    }

    public int breaks(int most) {
        if (!isWithin(most, 0, MILLION)) {
            return finding(BEYOND);
        }
        trial.become(now);
        for (int dry = 1; dry <= MOST_DRY; dry++) {
            trial.dry = dry;
            trial.weigh();
            if (trial.greatestTakes() > most) {
                return dry;
            }
        }
        return finding(NONE);
    }

    public int blame(int place) {
        if (!now.hasFarm(place)) {
            return finding(BEYOND);
        }
        if (now.meetCount() == 0) {
            return finding(NONE);
        }
        now.weigh();
        long open = now.meets[place].open();
        return millionths(open, open + now.rules[LEAK] * 10000L);
    }

    public int always() {
        now.weigh();
        int set = 0;
        for (int place = 0; place < now.meetCount(); place++) {
            if (now.meets[place].takes == MILLION) {
                set |= 1 << now.meets[place].taker;
            }
        }
        return set;
    }

    // ---- the text

    public int feed(int bytes, int n) {
        if (!isWithin(n, 1, 4)) {
            return finding(BEYOND);
        }
        if (tape.length > MOST_BYTES - n) {
            return finding(FULL);
        }
        for (int i = n - 1; i >= 0; i--) {
            tape.append(bytes >>> 8 * i & 255);
        }
        return tape.length;
    }

    public int wipe() {
        int before = tape.length;
        tape.length = 0;
        return before;
    }

    public int text() {
        if (!tape.parse()) {
            return -1 - tape.at;
        }
        now.said.become(tape.draft);
        tape.length = 0;
        return 0;
    }

    public int plain() {
        int before = now.said.isThere() ? 1 : 0;
        now.said.length = 0;
        return before;
    }

    public int gives(int farm) {
        if (!now.hasFarm(farm)) {
            return finding(BEYOND);
        }
        return now.said.valueFor(now, farm, now.placeOf(farm));
    }

    // ---- nights

    public int seed(int v) {
        int before = now.z;
        now.z = v;
        return before;
    }

    public int nights(int n) {
        if (!isWithin(n, 1, MOST_NIGHTS)) {
            return finding(BEYOND);
        }
        int before = now.taken;
        now.passNights(n);
        return now.taken - before;
    }

    public int ahead(int n, int what) {
        if (!isWithin(n, 1, MOST_NIGHTS) || !isWithin(what, 0, 1 + now.count)) {
            return finding(BEYOND);
        }
        trial.become(now);
        trial.passNights(n);
        switch (what) {
            case 0: return trial.taken - now.taken;
            case 1: return trial.seen - now.seen;
            default: return trial.farms[what - 2].purse;
        }
    }

    public int purse(int what) {
        if (!isWithin(what, 0, 1)) {
            return finding(BEYOND);
        }
        if (now.count == 0) {
            return finding(NONE);
        }
        return what == 0 ? now.richest() : now.poorest();
    }

    // ---- sheets

    public int sheet(int s, int bits, int n) {
        if (!sheets.has(s) || !sheets.isWidth(bits)) {
            return finding(BEYOND);
        }
        if (n < 0) {
            return finding(SIZE);
        }
        if (n > MOST_NUMBERS) {
            return finding(BEYOND);
        }
        return sheets.lay(s, bits, n);
    }

    public long write(int s, int i, long v) {
        if (!sheets.has(s)) {
            return finding(BEYOND);
        }
        if (sheets.isMissing(s)) {
            return finding(MISSING);
        }
        if (!isWithin(i, 0, sheets.sizes[s] - 1)) {
            return finding(BEYOND);
        }
        return sheets.put(s, i, v);
    }

    public int copy(int s, int from, int t, int to, int n) {
        if (!sheets.has(s) || !sheets.has(t)) {
            return finding(BEYOND);
        }
        if (sheets.isMissing(s) || sheets.isMissing(t)) {
            return finding(MISSING);
        }
        if (sheets.widths[s] != sheets.widths[t]) {
            return finding(KIND);
        }
        if (!sheets.holds(s, from, n) || !sheets.holds(t, to, n)) {
            return finding(BEYOND);
        }
        System.arraycopy(sheets.rows[s], from, sheets.rows[t], to, n);
        return n;
    }

    public int worths(int s) {
        if (!sheets.has(s)) {
            return finding(BEYOND);
        }
        if (sheets.isMissing(s)) {
            return finding(MISSING);
        }
        int came = 0;
        for (int i = 0; i < sheets.sizes[s] && i < now.count; i++) {
            long worth = sheets.rows[s][i];
            if (worth >= FARM_LEAST[1] && worth <= FARM_MOST[1]) {
                now.farms[i].worth = (int) worth;
                came++;
            }
        }
        return came;
    }

    public int read(int s) {
        if (!sheets.has(s)) {
            return finding(BEYOND);
        }
        if (sheets.isMissing(s)) {
            return finding(MISSING);
        }
        now.weigh();
        for (int i = 0; i < sheets.sizes[s]; i++) {
            if (i >= now.meetCount() || sheets.rows[s][i] != now.meets[i].takes) {
                return 1 + i;
            }
        }
        return 0;
    }

    // ---- images

    public int image() {
        kept.become(now);
        isKept = true;
        return 1;
    }

    public int undo() {
        if (!isKept) {
            return finding(NONE);
        }
        now.become(kept);
        return now.count;
    }

    public int tear() {
        int before = isKept ? 1 : 0;
        isKept = false;
        return before;
    }

    public int count(int what) {
        switch (what) {
            case 0: return now.count;
            case 1: return now.year;
            case 2: return now.dry;
            case 3: return now.taken;
            case 4: return now.seen;
            case 5: return now.said.isThere() ? 1 : 0;
            case 6: return tape.length;
            case 7: return now.z;
            case 8: return now.allHours();
            default: return finding(BEYOND);
        }
    }

    public int status(int which) {
        if (!isWithin(which, -1, FINDINGS - 1)) {
            return finding(BEYOND);
        }
        if (which >= 0) {
            return findings[which];
        }
        int all = 0;
        for (int each : findings) {
            all += each;
        }
        return all;
    }

    // ---- what all of these use

    private int finding(int answer) {
        int which = BEYOND - answer;
        if (isWithin(which, 0, FINDINGS - 1)) {
            findings[which]++;
        }
        return answer;
    }

    private static boolean isWithin(int v, int least, int most) {
        return v >= least && v <= most;
    }

    private static boolean isPart(int what, int v) {
        return isWithin(v, FARM_LEAST[what], FARM_MOST[what]);
    }

    private static int millionths(long above, long below) {
        return below == 0 ? 0 : (int) (above * MILLION / below);
    }

    private static final class Farm {
        int kind;
        int hours;
        int worth;
        int sleep;
        int sees;
        int purse;
        int anger;

        void begin(int newKind, int newHours, int newWorth) {
            kind = newKind;
            hours = newHours;
            worth = newWorth;
            sleep = 0;
            sees = 0;
            purse = 0;
            anger = 0;
        }

        void become(Farm other) {
            begin(other.kind, other.hours, other.worth);
            sleep = other.sleep;
            sees = other.sees;
            purse = other.purse;
            anger = other.anger;
        }

        /** Parts 0 to 6 as of() numbers them. */
        int tell(int what) {
            switch (what) {
                case 0: return kind;
                case 1: return hours;
                case 2: return worth;
                case 3: return sleep;
                case 4: return sees;
                case 5: return purse;
                default: return anger;
            }
        }

        /** Parts 0 to 3 as set() numbers them, which leaves out the kind: what the part was. */
        int change(int what, int v) {
            int before = tell(what + 1);
            switch (what) {
                case 0: hours = v; break;
                case 1: worth = v; break;
                case 2: sleep = v; break;
                default: sees = v; break;
            }
            return before;
        }

        boolean isOf(int asked) {
            int at = kind;
            for (int level = 0; level < KINDS && at >= 0; level++) {
                if (at == asked) {
                    return true;
                }
                at = UNDER[at];
            }
            return false;
        }

        int wants(int pays, int dry) {
            switch (kind) {
                case HONEST:
                case PAID: return 0;
                case GRUDGE: return pays + pays / 2 * Math.min(anger, MOST_GRUDGE);
                case TAIL: return pays * dry;
                default: return pays;
            }
        }

        int minds() {
            switch (kind) {
                case PAID: return sleep / 2;
                case GRUDGE: return Math.max(sleep - 10 * anger, 0);
                default: return sleep;
            }
        }
    }

    /** A MEET of an OWNER and a TAKER, with what is at REST between them. */
    private static final class Meet {
        int owner;
        int taker;
        /** W, V, G, S and s of the document, in this order. */
        int wants;
        int pays;
        int given;
        int minds;
        int sight;
        /** The chances, not yet in lowest terms. */
        int takesAbove;
        int takesBelow = 1;
        int watchesAbove;
        int watchesBelow = 1;
        /** P and Q. */
        int takes;
        int watches;

        void settle(int fine) {
            int cost = 100 * minds;
            int prize = sight * (pays + given);
            int lure = 100 * wants;
            int threat = sight * (wants + fine);
            if (wants == 0) {
                putChances(0, 1, 0, 1);
            } else if (cost >= prize) {
                putChances(1, 1, 0, 1);
            } else if (lure >= threat) {
                putChances(1, 1, 1, 1);
            } else {
                putChances(cost, prize, lure, threat);
            }
        }

        private void putChances(int takeAbove, int takeBelow, int watchAbove, int watchBelow) {
            takesAbove = takeAbove;
            takesBelow = takeBelow;
            watchesAbove = watchAbove;
            watchesBelow = watchBelow;
            takes = millionths(takeAbove, takeBelow);
            watches = millionths(watchAbove, watchBelow);
        }

        int open() {
            return (int) (takes * (100000000L - (long) watches * sight) / 100000000L);
        }

        long loses(int spill) {
            return (long) watches * minds + (long) open() * spill;
        }

        /** Parts 0 to 6 as rest() numbers them. */
        int tell(int what) {
            switch (what) {
                case 0: return takesAbove / common(takesAbove, takesBelow);
                case 1: return takesBelow / common(takesAbove, takesBelow);
                case 2: return watchesAbove / common(watchesAbove, watchesBelow);
                case 3: return watchesBelow / common(watchesAbove, watchesBelow);
                case 4: return takes;
                case 5: return watches;
                default: return open();
            }
        }

        /** The greatest common divisor, 1 at least; ints need fewer than 64 steps. */
        private static int common(int a, int b) {
            int great = a;
            int small = b;
            for (int step = 0; small > 0 && step < 64; step++) {
                int left = great % small;
                great = small;
                small = left;
            }
            return Math.max(great, 1);
        }
    }

    /** All that an image keeps, and what follows from it. */
    private static final class Ditch {
        final Farm[] farms = new Farm[MOST_FARMS];
        final int[] order = new int[MOST_FARMS];
        final int[] rules = {100, 50, 10, 0, 0};
        final Text said = new Text();
        int count = 0;
        int year = 0;
        int dry = 1;
        int z = 1;
        int taken = 0;
        int seen = 0;
        /** By places, as the latest weigh() found them: no image needs these. */
        final Meet[] meets = new Meet[MOST_FARMS];
        final int[] pays = new int[MOST_FARMS];

        Ditch() {
            for (int i = 0; i < MOST_FARMS; i++) {
                farms[i] = new Farm();
                meets[i] = new Meet();
            }
        }

        void become(Ditch other) {
            for (int i = 0; i < MOST_FARMS; i++) {
                farms[i].become(other.farms[i]);
                order[i] = other.order[i];
            }
            System.arraycopy(other.rules, 0, rules, 0, RULES);
            said.become(other.said);
            count = other.count;
            year = other.year;
            dry = other.dry;
            z = other.z;
            taken = other.taken;
            seen = other.seen;
        }

        /** There are as many places as farms, so this tells of places too. */
        boolean hasFarm(int number) {
            return isWithin(number, 0, count - 1);
        }

        int settleFarm(int kind, int hours, int worth) {
            int number = count;
            if (number < MOST_FARMS) {
                farms[number].begin(kind, hours, worth);
                order[number] = number;
                count++;
            }
            return number;
        }

        void passYear() {
            year++;
            for (int i = 0; i < count; i++) {
                farms[i].anger = Math.max(farms[i].anger - 1, 0);
            }
        }

        int allHours() {
            int all = 0;
            for (int i = 0; i < count; i++) {
                all += farms[i].hours;
            }
            return all;
        }

        int placeOf(int farm) {
            for (int place = 0; place < count; place++) {
                if (order[place] == farm) {
                    return place;
                }
            }
            return 0;
        }

        boolean isOrder(int number) {
            int met = 0;
            for (int place = 0; place < count; place++) {
                met |= 1 << digit(number, place);
            }
            return met == (1 << count) - 1;
        }

        void putOrder(int number) {
            for (int place = 0; place < count; place++) {
                order[place] = digit(number, place);
            }
        }

        private int digit(int number, int place) {
            return number >>> 3 * (count - 1 - place) & 7;
        }

        int orderNumber() {
            int number = 0;
            for (int place = 0; place < count; place++) {
                number = number * 8 + order[place];
            }
            return number;
        }

        int paysOf(int farm) {
            return paysAt(farm, placeOf(farm));
        }

        int wantsOf(int farm) {
            return farms[farm].wants(paysOf(farm), dry);
        }

        int paysAt(int farm, int place) {
            long pays = (long) farms[farm].worth * said.valueFor(this, farm, place) / 100;
            return (int) Math.max(0L, Math.min(pays, (long) MOST_PAYS));
        }

        int meetCount() {
            return count < 2 ? 0 : count;
        }

        void weigh() {
            for (int place = 0; place < count; place++) {
                pays[place] = paysAt(order[place], place);
            }
            for (int place = 0; place < meetCount(); place++) {
                int next = place + 1 < count ? place + 1 : 0;
                weighMeet(meets[place], order[place], pays[place], order[next], pays[next]);
            }
        }

        void weighMeet(Meet meet, int owner, int ownerPays, int taker, int takerPays) {
            meet.owner = owner;
            meet.taker = taker;
            meet.wants = farms[taker].wants(takerPays, dry);
            meet.pays = ownerPays;
            meet.given = rules[FINE] * rules[GIVES] / 100;
            meet.minds = farms[owner].minds();
            meet.sight = Math.min(farms[owner].sees + rules[MAN], 100);
            meet.settle(rules[FINE]);
        }

        long loses() {
            long all = 0;
            for (int place = 0; place < meetCount(); place++) {
                all += meets[place].loses(rules[SPILL]);
            }
            return all;
        }

        int greatestTakes() {
            int greatest = 0;
            for (int place = 0; place < meetCount(); place++) {
                greatest = Math.max(greatest, meets[place].takes);
            }
            return greatest;
        }

        int takesAtMost(int fine) {
            rules[FINE] = fine;
            weigh();
            return greatestTakes();
        }

        void passNights(int n) {
            for (int night = 0; night < n; night++) {
                weigh();
                for (int place = 0; place < meetCount(); place++) {
                    passMeet(meets[place]);
                }
            }
        }

        private void passMeet(Meet meet) {
            Farm owner = farms[meet.owner];
            Farm taker = farms[meet.taker];
            boolean takes = draw() % MILLION < meet.takes;
            boolean watches = draw() % MILLION < meet.watches;
            boolean sees = draw() % 100 < meet.sight;
            if (watches) {
                owner.purse -= meet.minds;
            }
            if (takes && watches && sees) {
                taken++;
                seen++;
                taker.purse -= rules[FINE];
                owner.purse += meet.given;
                taker.anger = 0;
            } else if (takes) {
                taken++;
                taker.purse += meet.wants;
                owner.purse -= meet.pays;
                owner.anger = Math.min(owner.anger + 1, MOST_ANGER);
            }
        }

        private int draw() {
            z = z * 1103515245 + 12345;
            return z >>> 8;
        }

        int richest() {
            int found = 0;
            for (int i = 1; i < count; i++) {
                if (farms[i].purse > farms[found].purse) {
                    found = i;
                }
            }
            return found;
        }

        int poorest() {
            int found = 0;
            for (int i = 1; i < count; i++) {
                if (farms[i].purse < farms[found].purse) {
                    found = i;
                }
            }
            return found;
        }
    }

    /** The search for BEST: farms are laid down place by place, lower numbers first. */
    private static final class Orders {
        /** By farm and place, since THE TEXT may ask for the place. */
        private final int[] pays = new int[MOST_ORDERED * MOST_ORDERED];
        /** By owner, taker and the owner's place. */
        private final long[] lost = new long[MOST_ORDERED * MOST_ORDERED * MOST_ORDERED];
        private final int[] laid = new int[MOST_ORDERED];
        private final Meet meet = new Meet();
        private int count = 0;
        long leastLost = 0;
        int leastNumber = 0;

        /** Only for a ditch of 2 to 7 farms, as best() has looked at. */
        void search(Ditch ditch) {
            count = ditch.count;
            fillPays(ditch);
            for (int owner = 0; owner < count; owner++) {
                for (int taker = 0; taker < count; taker++) {
                    fillLost(ditch, owner, taker);
                }
            }
            leastLost = MORE_THAN_IS_LOST;
            leastNumber = 0;
            layFirst(ditch.said.asksPlace() ? count : 1);
        }

        /** Where no place counts, an order loses what it loses when turned till farm 0 is first. */
        private void layFirst(int firsts) {
            for (int farm = 0; farm < firsts; farm++) {
                laid[0] = farm;
                layFrom(this, 1, 1 << farm, 0L, farm);
            }
        }

        private void fillPays(Ditch ditch) {
            for (int farm = 0; farm < count; farm++) {
                for (int place = 0; place < count; place++) {
                    pays[farm * MOST_ORDERED + place] = ditch.paysAt(farm, place);
                }
            }
        }

        private void fillLost(Ditch ditch, int owner, int taker) {
            for (int place = 0; place < count; place++) {
                int next = place + 1 < count ? place + 1 : 0;
                int ownerPays = pays[owner * MOST_ORDERED + place];
                int takerPays = pays[taker * MOST_ORDERED + next];
                ditch.weighMeet(meet, owner, ownerPays, taker, takerPays);
                lost[index(owner, taker, place)] = meet.loses(ditch.rules[SPILL]);
            }
        }

        private static int index(int owner, int taker, int place) {
            return (owner * MOST_ORDERED + taker) * MOST_ORDERED + place;
        }

        /**
         * Nothing lost is below 0, so what has lost too much already is not gone on with.
         * Static, as rule 8 of LANGUAGE.md has a method that calls itself.
         */
        private static void layFrom(Orders search, int place, int used, long sum, int number) {
            if (place >= search.count) {
                search.closeRing(sum, number);
                return;
            }
            for (int farm = 0; farm < search.count; farm++) {
                if ((used >> farm & 1) == 0) {
                    long more = sum + search.lost[index(search.laid[place - 1], farm, place - 1)];
                    if (more < search.leastLost) {
                        search.laid[place] = farm;
                        layFrom(search, place + 1, used | 1 << farm, more, number * 8 + farm);
                    }
                }
            }
        }

        private void closeRing(long sum, int number) {
            long all = sum + lost[index(laid[count - 1], laid[0], count - 1)];
            if (all < leastLost) {
                leastLost = all;
                leastNumber = number;
            }
        }
    }

    /**
     * A text with each sign behind what it works on: numbers as they are, names and signs
     * below 0. A whole text has no jumps, since nothing in it but its answer matters.
     */
    private static final class Text {
        private final int[] code = new int[MOST_BYTES];
        private final int[] stack = new int[MOST_BYTES];
        private int top = 0;
        int length = 0;

        boolean isThere() {
            return length > 0;
        }

        void become(Text other) {
            System.arraycopy(other.code, 0, code, 0, MOST_BYTES);
            length = other.length;
        }

        void append(int step) {
            if (length < MOST_BYTES) {
                code[length] = step;
                length++;
            }
        }

        boolean asksPlace() {
            for (int i = 0; i < length; i++) {
                if (code[i] == -'o') {
                    return true;
                }
            }
            return false;
        }

        int valueFor(Ditch ditch, int farm, int place) {
            if (!isThere()) {
                return 100;
            }
            top = 0;
            for (int i = 0; i < length; i++) {
                int step = code[i];
                if (step >= 0) {
                    push(step);
                } else if (isName(-step)) {
                    push(named(-step, ditch, farm, place));
                } else {
                    work(-step);
                }
            }
            return pop();
        }

        static boolean isName(int sign) {
            switch (sign) {
                case 'd':
                case 'y':
                case 'h':
                case 'i':
                case 'n':
                case 'o': return true;
                default: return false;
            }
        }

        private static int named(int name, Ditch ditch, int farm, int place) {
            switch (name) {
                case 'd': return ditch.dry;
                case 'y': return ditch.year;
                case 'h': return ditch.farms[farm].hours;
                case 'i': return farm;
                case 'n': return ditch.count;
                default: return place;
            }
        }

        private void work(int sign) {
            int last = pop();
            if (sign == NEGATE) {
                push(-last);
            } else if (sign == CHOOSE) {
                int then = pop();
                int right = pop();
                push(pop() < right ? then : last);
            } else {
                push(joined(sign, pop(), last));
            }
        }

        private static int joined(int sign, int left, int right) {
            switch (sign) {
                case '+': return left + right;
                case '-': return left - right;
                case '*': return left * right;
                default: return right == 0 ? 0 : left / right;
            }
        }

        private void push(int v) {
            if (top < MOST_BYTES) {
                stack[top] = v;
                top++;
            }
        }

        private int pop() {
            if (top == 0) {
                return 0;
            }
            top--;
            return stack[top];
        }
    }

    /** THE TAPE, and its reading: each method reads one part and tells whether it is there. */
    private static final class Tape {
        private final int[] bytes = new int[MOST_BYTES];
        final Text draft = new Text();
        int length = 0;
        /** The byte that is read next; where parse() fails, the FAULT. */
        int at = 0;

        void append(int value) {
            if (length < MOST_BYTES) {
                bytes[length] = value;
                length++;
            }
        }

        boolean parse() {
            at = 0;
            draft.length = 0;
            return isSum(0) && at == length;
        }

        private boolean isSum(int open) {
            boolean right = isProduct(open);
            for (int i = 0; i < MOST_BYTES && right && isNext('+', '-'); i++) {
                int sign = next();
                at++;
                right = isProduct(open);
                draft.append(-sign);
            }
            return right;
        }

        private boolean isProduct(int open) {
            boolean right = isFactor(open);
            for (int i = 0; i < MOST_BYTES && right && isNext('*', '/'); i++) {
                int sign = next();
                at++;
                right = isFactor(open);
                draft.append(-sign);
            }
            return right;
        }

        private boolean isFactor(int open) {
            int sign = next();
            if (isDigit(sign)) {
                takeNumber();
                return true;
            }
            if (Text.isName(sign)) {
                at++;
                draft.append(-sign);
                return true;
            }
            if (open >= MOST_OPEN || !isNext('-', '(')) {
                return false;
            }
            at++;
            return sign == '-' ? isNegated(open + 1) : isBracket(open + 1);
        }

        private boolean isNegated(int open) {
            boolean right = isFactor(open);
            draft.append(-NEGATE);
            return right;
        }

        private boolean isBracket(int open) {
            if (!isSum(open)) {
                return false;
            }
            if (passes(')')) {
                return true;
            }
            boolean right = passes('<') && isSum(open)
                && passes('?') && isSum(open)
                && passes(':') && isSum(open)
                && passes(')');
            draft.append(-CHOOSE);
            return right;
        }

        private void takeNumber() {
            int number = 0;
            for (int i = 0; i < MOST_DIGITS && isDigit(next()); i++) {
                number = number * 10 + next() - '0';
                at++;
            }
            draft.append(number);
        }

        private static boolean isDigit(int sign) {
            return isWithin(sign, '0', '9');
        }

        private boolean passes(int sign) {
            boolean right = next() == sign;
            if (right) {
                at++;
            }
            return right;
        }

        private boolean isNext(int one, int other) {
            return next() == one || next() == other;
        }

        /** -1 behind the end. */
        private int next() {
            return isWithin(at, 0, length - 1) ? bytes[at] : -1;
        }
    }

    private static final class Sheets {
        final long[][] rows = new long[SHEETS][MOST_NUMBERS];
        /** 0 where a sheet is MISSING. */
        final int[] widths = new int[SHEETS];
        final int[] sizes = new int[SHEETS];

        boolean has(int s) {
            return isWithin(s, 0, SHEETS - 1);
        }

        boolean isWidth(int bits) {
            return bits == 0 || bits == 8 || bits == 16 || bits == 64;
        }

        boolean isMissing(int s) {
            return widths[s] == 0;
        }

        int lay(int s, int bits, int n) {
            widths[s] = bits;
            sizes[s] = bits == 0 ? 0 : n;
            for (int i = 0; i < MOST_NUMBERS; i++) {
                rows[s][i] = 0;
            }
            return sizes[s];
        }

        long put(int s, int i, long v) {
            long before = rows[s][i];
            rows[s][i] = lowest(widths[s], v);
            return before;
        }

        /** With their sign, as the numbers of 64 bits have theirs. */
        private static long lowest(int bits, long v) {
            switch (bits) {
                case 8: return (byte) v;
                case 16: return (short) v;
                default: return v;
            }
        }

        boolean holds(int s, int from, int n) {
            return n >= 0 && n <= sizes[s] && isWithin(from, 0, sizes[s] - n);
        }
    }
}
