/** Promises 1 to 8: a new object, farm, set, of, as, rule, dry, year. */
public final class FarmsTest {
    public static void main(String[] args) {
        newObject();
        farm();
        set();
        of();
        grudges();
        tails();
        as();
        rule();
        dry();
        year();
        Due.end();
    }

    private static void newObject() {
        NightDitch x = new NightDitch();
        int[] counts = {0, 0, 1, 0, 0, 0, 0, 1, 0};
        for (int what = 0; what < counts.length; what++) {
            Due.is("new: count(" + what + ")", x.count(what), counts[what]);
        }
        int[] rules = {100, 50, 10, 0, 0};
        for (int what = 0; what < rules.length; what++) {
            Due.is("new: rule(" + what + ", 0)", x.rule(what, 0), rules[what]);
        }
        Due.is("new: plain()", x.plain(), 0);
        Due.is("new: wipe()", x.wipe(), 0);
        Due.is("new: tear()", x.tear(), 0);
        Due.is("new: status(-1)", x.status(-1), 0);
        Due.refuses(x, "new: undo()", x::undo, Due.NONE);
        for (int s = 0; s < 4; s++) {
            int sheet = s;
            Due.refuses(x, "new: write(" + s + ", 0, 1)", () -> x.write(sheet, 0, 1), Due.MISSING);
        }
    }

    private static void farm() {
        NightDitch x = new NightDitch();
        Due.refuses(x, "farm(-1, 1, 1)", () -> x.farm(-1, 1, 1), Due.BEYOND);
        Due.refuses(x, "farm(6, 1, 1)", () -> x.farm(6, 1, 1), Due.BEYOND);
        Due.refuses(x, "farm(0, 0, 1)", () -> x.farm(0, 0, 1), Due.BEYOND);
        Due.refuses(x, "farm(0, 25, 1)", () -> x.farm(0, 25, 1), Due.BEYOND);
        Due.refuses(x, "farm(0, 1, -1)", () -> x.farm(0, 1, -1), Due.BEYOND);
        Due.refuses(x, "farm(0, 1, 1000)", () -> x.farm(0, 1, 1000), Due.BEYOND);
        Due.refuses(x, "farm(MIN, MIN, MIN)",
            () -> x.farm(Integer.MIN_VALUE, Integer.MIN_VALUE, Integer.MIN_VALUE), Due.BEYOND);
        Due.is("farm(0, 1, 0)", x.farm(0, 1, 0), 0);
        Due.is("farm(5, 24, 999)", x.farm(5, 24, 999), 1);
        int[] due = {5, 24, 999, 0, 0, 0, 0, 999, 0, 0, 1};
        for (int what = 0; what < due.length; what++) {
            Due.is("of(1, " + what + ")", x.of(1, what), due[what]);
        }
        for (int i = 2; i < 8; i++) {
            Due.is("farm(0, 1, 1)", x.farm(0, 1, 1), i);
        }
        Due.is("told()", x.told(), 342391);
        Due.refuses(x, "farm(0, 1, 1), the ninth", () -> x.farm(0, 1, 1), Due.FULL);
        Due.refuses(x, "farm(6, 1, 1), the ninth", () -> x.farm(6, 1, 1), Due.BEYOND);
        Due.refuses(x, "farm(0, 1, 1000), the ninth", () -> x.farm(0, 1, 1000), Due.BEYOND);
    }

    private static void set() {
        NightDitch x = new NightDitch();
        Due.refuses(x, "set(0, 0, 1) without farms", () -> x.set(0, 0, 1), Due.BEYOND);
        x.farm(2, 3, 100);
        int[] first = {3, 100, 0, 0};
        int[] least = {1, 0, 0, 0};
        int[] most = {24, 999, 999, 100};
        for (int i = 0; i < 4; i++) {
            int what = i;
            Due.is("set(0, " + what + ", least)", x.set(0, what, least[what]), first[what]);
            Due.is("set(0, " + what + ", most)", x.set(0, what, most[what]), least[what]);
            Due.is("of(0, 1 + " + what + ")", x.of(0, 1 + what), most[what]);
            Due.refuses(x, "set(0, " + what + ", below)", () -> x.set(0, what, least[what] - 1), Due.BEYOND);
            Due.refuses(x, "set(0, " + what + ", above)", () -> x.set(0, what, most[what] + 1), Due.BEYOND);
        }
        Due.refuses(x, "set(-1, 0, 1)", () -> x.set(-1, 0, 1), Due.BEYOND);
        Due.refuses(x, "set(1, 0, 1)", () -> x.set(1, 0, 1), Due.BEYOND);
        Due.refuses(x, "set(0, -1, 1)", () -> x.set(0, -1, 1), Due.BEYOND);
        Due.refuses(x, "set(0, 4, 1)", () -> x.set(0, 4, 1), Due.BEYOND);
        Due.refuses(x, "set(0, MAX, 1)", () -> x.set(0, Integer.MAX_VALUE, 1), Due.BEYOND);
    }

    private static void of() {
        NightDitch x = new NightDitch();
        Due.refuses(x, "of(0, 0) without farms", () -> x.of(0, 0), Due.BEYOND);
        x.farm(0, 7, 33);
        x.farm(5, 8, 44);
        x.set(1, 2, 9);
        x.set(1, 3, 77);
        x.swap(0, 1);
        x.rule(3, 50);
        int[] farmer = {0, 7, 33, 0, 0, 0, 0, 33, 33, 0, 1};
        int[] paid = {5, 8, 44, 9, 77, 0, 0, 44, 0, 4, 0};
        for (int what = 0; what < 11; what++) {
            Due.is("of(0, " + what + ")", x.of(0, what), farmer[what]);
            Due.is("of(1, " + what + ")", x.of(1, what), paid[what]);
        }
        Due.is("text 250", Due.say(x, "250"), 0);
        Due.is("PAYS by 250", x.of(0, 7), 82);
        Due.is("text 0-5", Due.say(x, "0-5"), 0);
        Due.is("PAYS below 0", x.of(0, 7), 0);
        Due.is("text 9999*9999", Due.say(x, "9999*9999"), 0);
        Due.is("PAYS at most", x.of(0, 7), 99999);
        Due.is("text 9999*9999*21", Due.say(x, "9999*9999*21"), 0);
        Due.is("PAYS of more than an int holds", x.of(1, 7), 99999);
        Due.refuses(x, "of(-1, 0)", () -> x.of(-1, 0), Due.BEYOND);
        Due.refuses(x, "of(2, 0)", () -> x.of(2, 0), Due.BEYOND);
        Due.refuses(x, "of(0, -1)", () -> x.of(0, -1), Due.BEYOND);
        Due.refuses(x, "of(0, 11)", () -> x.of(0, 11), Due.BEYOND);
    }

    /** Who sees nothing watches never: both take always, and each night makes one ANGER more. */
    private static void grudges() {
        NightDitch x = new NightDitch();
        x.farm(3, 1, 51);
        x.farm(2, 1, 50);
        x.set(0, 2, 75);
        x.set(1, 2, 75);
        int[] wants = {51, 76, 101, 126, 151, 151, 151, 151, 151, 151, 151};
        int[] minds = {75, 65, 55, 45, 35, 25, 15, 5, 0, 0, 0};
        for (int night = 0; night < wants.length; night++) {
            Due.is("ANGER", x.of(0, 6), Math.min(night, 9));
            Due.is("WANTS of a GRUDGE", x.of(0, 8), wants[night]);
            Due.is("MINDS of a GRUDGE", x.of(0, 9), minds[night]);
            Due.is("PAYS of a GRUDGE", x.of(0, 7), 51);
            Due.is("WANTS of a GAIN", x.of(1, 8), 50);
            Due.is("MINDS of a GAIN", x.of(1, 9), 75);
            x.nights(1);
        }
    }

    private static void tails() {
        NightDitch x = new NightDitch();
        for (int kind = 0; kind < 6; kind++) {
            x.farm(kind, 1, 30);
            x.set(kind, 2, 7);
        }
        x.dry(9);
        int[] wants = {30, 0, 30, 30, 270, 0};
        int[] minds = {7, 7, 7, 7, 7, 3};
        for (int kind = 0; kind < 6; kind++) {
            Due.is("WANTS of " + kind, x.of(kind, 8), wants[kind]);
            Due.is("MINDS of " + kind, x.of(kind, 9), minds[kind]);
        }
    }

    private static void as() {
        NightDitch x = new NightDitch();
        Due.refuses(x, "as(0, 0) without farms", () -> x.as(0, 0), Due.BEYOND);
        String[] kinds = {"0", "01", "02", "023", "024", "015"};
        for (int kind = 0; kind < 6; kind++) {
            x.farm(kind, 1, 20);
        }
        x.dry(3);
        int[] wants = {20, 0, 20, 20, 60, 0};
        for (int f = 0; f < 6; f++) {
            for (int k = 0; k < 6; k++) {
                int farm = f;
                int kind = k;
                if (kinds[farm].indexOf('0' + kind) >= 0) {
                    Due.is("as(" + farm + ", " + kind + ")", x.as(farm, kind), wants[farm]);
                } else {
                    Due.refuses(x, "as(" + farm + ", " + kind + ")", () -> x.as(farm, kind), Due.KIND);
                }
            }
        }
        Due.refuses(x, "as(-1, 0)", () -> x.as(-1, 0), Due.BEYOND);
        Due.refuses(x, "as(6, 0)", () -> x.as(6, 0), Due.BEYOND);
        Due.refuses(x, "as(1, -1)", () -> x.as(1, -1), Due.BEYOND);
        Due.refuses(x, "as(1, 6)", () -> x.as(1, 6), Due.BEYOND);
    }

    private static void rule() {
        NightDitch x = new NightDitch();
        int[] first = {100, 50, 10, 0, 0};
        int[] most = {99999, 100, 999, 100, 100};
        for (int i = 0; i < 5; i++) {
            int what = i;
            Due.is("rule(" + what + ", most)", x.rule(what, most[what]), first[what]);
            Due.is("rule(" + what + ", 0)", x.rule(what, 0), most[what]);
            Due.is("rule(" + what + ", 1)", x.rule(what, 1), 0);
            Due.refuses(x, "rule(" + what + ", -1)", () -> x.rule(what, -1), Due.BEYOND);
            Due.refuses(x, "rule(" + what + ", above)", () -> x.rule(what, most[what] + 1), Due.BEYOND);
        }
        Due.refuses(x, "rule(-1, 0)", () -> x.rule(-1, 0), Due.BEYOND);
        Due.refuses(x, "rule(5, 0)", () -> x.rule(5, 0), Due.BEYOND);
    }

    private static void dry() {
        NightDitch x = new NightDitch();
        Due.is("dry(9)", x.dry(9), 1);
        Due.is("dry(1)", x.dry(1), 9);
        Due.is("dry(4)", x.dry(4), 1);
        Due.refuses(x, "dry(0)", () -> x.dry(0), Due.BEYOND);
        Due.refuses(x, "dry(10)", () -> x.dry(10), Due.BEYOND);
        Due.is("count(2)", x.count(2), 4);
    }

    private static void year() {
        NightDitch x = new NightDitch();
        x.farm(2, 1, 10);
        x.farm(2, 1, 10);
        x.nights(2);
        int[] anger = {1, 0, 0};
        for (int i = 1; i < 100; i++) {
            Due.is("year()", x.year(), i);
            Due.is("ANGER of 0 in year " + i, x.of(0, 6), i <= 3 ? anger[i - 1] : 0);
            Due.is("ANGER of 1 in year " + i, x.of(1, 6), i <= 3 ? anger[i - 1] : 0);
        }
        x.nights(1);
        Due.refuses(x, "year() in 99", x::year, Due.STATE);
        Due.is("ANGER in 99", x.of(1, 6), 1);
    }
}
