/** Promises 22 to 26: feed, wipe, text, plain, gives. */
public final class TextTest {
    public static void main(String[] args) {
        feed();
        wipe();
        values();
        names();
        faults();
        nested();
        textAndTape();
        plain();
        gives();
        Due.end();
    }

    private static NightDitch one() {
        NightDitch x = new NightDitch();
        x.farm(2, 7, 200);
        return x;
    }

    private static void feed() {
        NightDitch x = one();
        Due.is("feed of 1", x.feed(0x41424331, 1), 1);
        Due.is("feed of 2", x.feed(0x41422b32, 2), 3);
        Due.is("feed of 3", x.feed(0x412b332a, 3), 6);
        Due.is("feed of 4", x.feed(0x342a352d, 4), 10);
        Due.is("feed of 1", x.feed('9', 1), 11);
        Due.is("text() of 1+2+3*4*5-9", x.text(), 0);
        Due.is("gives(0)", x.gives(0), 54);
        for (int i = 0; i < 14; i++) {
            Due.is("feed of 4", x.feed('1', 4), 4 * i + 4);
        }
        Due.is("feed of 1", x.feed(1, 1), 57);
        Due.refuses(x, "feed of 4 behind 57", () -> x.feed(1, 4), Due.FULL);
        Due.refuses(x, "feed of 5 behind 57", () -> x.feed(1, 5), Due.BEYOND);
        Due.is("feed of 3 behind 57", x.feed(1, 3), 60);
        Due.refuses(x, "feed of 1 behind 60", () -> x.feed(1, 1), Due.FULL);
        Due.refuses(x, "feed of 0 behind 60", () -> x.feed(1, 0), Due.BEYOND);
        Due.is("wipe()", x.wipe(), 60);
        Due.refuses(x, "feed of 0", () -> x.feed('1', 0), Due.BEYOND);
        Due.refuses(x, "feed of 5", () -> x.feed('1', 5), Due.BEYOND);
        Due.refuses(x, "feed of MIN", () -> x.feed('1', Integer.MIN_VALUE), Due.BEYOND);
        Due.is("feed of high bytes", x.feed(-1, 2), 2);
        Due.is("text() of high bytes", x.text(), -1);
    }

    private static void wipe() {
        NightDitch x = one();
        Due.is("wipe() of none", x.wipe(), 0);
        x.feed(0, 3);
        Due.is("wipe()", x.wipe(), 3);
        Due.is("count(6)", x.count(6), 0);
        Due.is("wipe() again", x.wipe(), 0);
    }

    private static void isWorth(String text, int due) {
        NightDitch x = one();
        Due.is("text " + text, Due.say(x, text), 0);
        Due.is("what " + text + " gives", x.gives(0), due);
    }

    private static void values() {
        isWorth("0", 0);
        isWorth("0007", 7);
        isWorth("9999", 9999);
        isWorth("1-2-3", -4);
        isWorth("1-2*3", -5);
        isWorth("(1-2)*3", -3);
        isWorth("7/2*2", 6);
        isWorth("-7/2", -3);
        isWorth("7/-2", -3);
        isWorth("7/0", 0);
        isWorth("7/(1-1)+5", 5);
        isWorth("-2*-3", 6);
        isWorth("1--1", 2);
        isWorth("1+-1", 0);
        isWorth("-(1+2)*2", -6);
        isWorth("--5", 5);
        isWorth("(1<2?3:4)", 3);
        isWorth("(2<2?3:4)", 4);
        isWorth("(3<2?3:4)+10", 14);
        isWorth("-(1+1<2*2?3-1:4)", -2);
        isWorth("((1<2?2:1)<(2<1?2:1)?10:(5<6?11:12))", 11);
        isWorth("9999*9999*9999", 9999 * 9999 * 9999);
        isWorth("(0-8192*8192*32)/(0-1)", Integer.MIN_VALUE);
        isWorth("-(8192*8192*32)", Integer.MIN_VALUE);
        isWorth("8192*8192*32-1", Integer.MAX_VALUE);
        isWorth("(8192*8192*32<0?1:2)", 1);
    }

    private static void names() {
        NightDitch x = new NightDitch();
        for (int i = 0; i < 5; i++) {
            x.farm(2, 10 + i, 100);
        }
        x.dry(6);
        x.year();
        x.year();
        x.swap(3, 1);
        String[] texts = {"d", "y", "h", "i", "n", "o"};
        int[] due = {6, 2, 13, 3, 5, 1};
        for (int k = 0; k < texts.length; k++) {
            Due.is("text " + texts[k], Due.say(x, texts[k]), 0);
            Due.is("what " + texts[k] + " gives", x.gives(3), due[k]);
            Due.is("PAYS by " + texts[k], x.of(3, 7), due[k]);
        }
    }

    private static void isFault(String text, int fault) {
        NightDitch x = one();
        Due.is("text " + text, Due.say(x, text), -1 - fault);
    }

    private static void faults() {
        isFault("", 0);
        isFault("+1", 0);
        isFault(" 1", 0);
        isFault("x", 0);
        isFault("D", 0);
        isFault("1 ", 1);
        isFault("12345", 4);
        isFault("1+12345*", 6);
        isFault("1+", 2);
        isFault("1+*2", 2);
        isFault("-", 1);
        isFault("1d", 1);
        isFault("dd", 1);
        isFault("d1", 1);
        isFault("1)", 1);
        isFault("()", 1);
        isFault("(", 1);
        isFault("(1", 2);
        isFault("(1)1", 3);
        isFault("(1)(2)", 3);
        isFault("1<2", 1);
        isFault("1?2", 1);
        isFault("(1?2:3)", 2);
        isFault("(1<2)", 4);
        isFault("(1<2<3?1:2)", 4);
        isFault("(1<2:3?4)", 4);
        isFault("(1<2?3)", 6);
        isFault("(1<2?3?4:5)", 6);
        isFault("(1<2?3<4:5)", 6);
        isFault("(1<2?3:4:5)", 8);
        isFault("(1<2?3:4<5)", 8);
        isFault("(1<2?3:4", 8);
        isFault("(1<2?3:", 7);
        isFault("(1<2?", 5);
        isFault("(1<", 3);
        isFault("1/", 2);
        isFault("1\u00b2", 1);
        isFault("1\u0000", 1);
    }

    private static void nested() {
        isWorth("(((((1)))))", 1);
        isFault("((((((1))))))", 5);
        isWorth("-----1", -1);
        isFault("------1", 5);
        isWorth("-(-(-1))", -1);
        isFault("-(-(-(1)))", 5);
        isWorth("-(-(-1))-(-(-(2)))", -3);
        isWorth("1-----2", -1);
        isWorth("1------2", 3);
        isFault("1-------2", 7);
        isWorth("(----1*2)", 2);
        isFault("(-----1)", 5);
        isWorth("(((((1<2?3:4)))))", 3);
        isWorth("((((-1<0?-5:-6))))", -5);
        isFault("(((((1<2?-3:4)))))", 9);
        isWorth("((((1)))+(((2)))*----1)", 3);
    }

    private static void textAndTape() {
        NightDitch x = one();
        Due.feed(x, "d+1");
        Due.is("text() with a FAULT", Due.say(one(), "d+"), -3);
        Due.is("text()", x.text(), 0);
        Due.is("count(6): THE TAPE is empty", x.count(6), 0);
        Due.is("count(5): there is a TEXT", x.count(5), 1);
        Due.feed(x, "d+");
        int findings = x.status(-1);
        Due.is("text() with a FAULT", x.text(), -3);
        Due.is("no finding", x.status(-1), findings);
        Due.is("THE TAPE stays", x.count(6), 2);
        Due.is("THE TEXT stays", x.gives(0), 2);
        Due.feed(x, "5");
        Due.is("text() of what is there now", x.text(), 0);
        Due.is("gives(0)", x.gives(0), 6);
        Due.is("text() of an empty TAPE", x.text(), -1);
        Due.is("THE TEXT stays", x.gives(0), 6);
        StringBuilder longest = new StringBuilder("10");
        for (int i = 0; i < 29; i++) {
            longest.append("+1");
        }
        Due.is("text() of 60", Due.say(x, longest.toString()), 0);
        Due.is("gives(0)", x.gives(0), 39);
        x.farm(2, 1, 1);
        Due.is("text() of 60 steps", Due.say(x, "-d" + "+d".repeat(29)), 0);
        Due.is("gives(1)", x.gives(1), 28);
        Due.is("best(0) with it", x.best(0), 01);
        Due.is("text() of 60 that ends too early", Due.say(x, "(" + longest.substring(1)), -61);
    }

    private static void plain() {
        NightDitch x = one();
        Due.is("plain() without", x.plain(), 0);
        Due.say(x, "7");
        Due.feed(x, "12");
        Due.is("PAYS", x.of(0, 7), 14);
        Due.is("plain()", x.plain(), 1);
        Due.is("plain() again", x.plain(), 0);
        Due.is("count(5)", x.count(5), 0);
        Due.is("count(6): THE TAPE stays", x.count(6), 2);
        Due.is("gives(0) without", x.gives(0), 100);
        Due.is("PAYS without", x.of(0, 7), 200);
    }

    private static void gives() {
        NightDitch none = new NightDitch();
        Due.refuses(none, "gives(0) without farms", () -> none.gives(0), Due.BEYOND);
        NightDitch x = one();
        Due.is("gives(0) without a text", x.gives(0), 100);
        Due.say(x, "0-9999*9999*10-189");
        int findings = x.status(-1);
        Due.is("gives(0), any number", x.gives(0), -999800199);
        Due.say(x, "-1000*1000*1000-1");
        Due.is("gives(0), as a finding is told", x.gives(0), Due.BEYOND);
        Due.is("which is none", x.status(-1), findings);
        Due.refuses(x, "gives(-1)", () -> x.gives(-1), Due.BEYOND);
        Due.refuses(x, "gives(1)", () -> x.gives(1), Due.BEYOND);
    }
}
