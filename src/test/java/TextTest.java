/** Promises 22 to 26: feed, wipe, text, plain, gives. */
public final class TextTest {
    public static void main(String[] args) throws ReflectiveOperationException {
        Due.run(TextTest.class, 22, 26);
        Due.end();
    }

    private static NightDitch one() {
        NightDitch x = new NightDitch();
        x.farm(2, 7, 200);
        return x;
    }

    private static NightDitch full() {
        NightDitch x = new NightDitch();
        for (int i = 0; i < 8; i++) {
            x.farm(2, 24, 100);
        }
        return x;
    }

    /** THE TAPE has so many bytes, each of them 1. */
    private static NightDitch fed(int bytes) {
        NightDitch x = new NightDitch();
        for (int i = 0; i < bytes; i++) {
            x.feed('1', 1);
        }
        return x;
    }

    private static void isWorth(String text, int due) {
        NightDitch x = one();
        Due.is("text " + text, Due.say(x, text), 0);
        Due.is("what " + text + " gives", x.gives(0), due);
    }

    private static void isFault(String text, int fault) {
        NightDitch x = one();
        Due.is("text " + text, Due.say(x, text), -1 - fault);
        Due.is("count(5) behind " + text, x.count(5), 0);
    }

    // ---- promise 22: feed

    static void promise22NTooSmall() {
        Due.refuses(TextTest::one, "feed(49, 0)", x -> x.feed('1', 0), Due.BEYOND);
        Due.refuses(TextTest::one, "feed(49, -1)", x -> x.feed('1', -1), Due.BEYOND);
        Due.refuses(TextTest::one, "feed(49, MIN)", x -> x.feed('1', Due.MIN), Due.BEYOND);
    }

    static void promise22NTooLarge() {
        Due.refuses(TextTest::one, "feed(49, 5)", x -> x.feed('1', 5), Due.BEYOND);
        Due.refuses(TextTest::one, "feed(49, MAX)", x -> x.feed('1', Due.MAX), Due.BEYOND);
    }

    static void promise22SixtyFit() {
        for (int n = 1; n <= 4; n++) {
            NightDitch x = fed(60 - n);
            Due.is("feed of " + n + " behind " + (60 - n), x.feed('1', n), 60);
            Due.is("count(6)", x.count(6), 60);
        }
    }

    static void promise22OneByteTooManyIsFull() {
        for (int n = 1; n <= 4; n++) {
            int bytes = n;
            Due.refuses(() -> fed(61 - bytes), "feed of " + n, x -> x.feed('1', bytes), Due.FULL);
            Due.refuses(() -> fed(60), "feed of " + n + " behind 60", x -> x.feed('1', bytes), Due.FULL);
        }
    }

    static void promise22BeyondIsAskedBeforeFull() {
        Due.refuses(() -> fed(60), "feed of 0 behind 60", x -> x.feed('1', 0), Due.BEYOND);
        Due.refuses(() -> fed(60), "feed of 5 behind 60", x -> x.feed('1', 5), Due.BEYOND);
    }

    static void promise22FullFeedsNoPart() {
        NightDitch x = fed(57);
        Due.is("feed of 4", x.feed('1', 4), Due.FULL);
        Due.is("feed of 3", x.feed('1', 3), 60);
    }

    static void promise22LowestBytesHighestFirst() {
        NightDitch x = one();
        Due.is("feed of 1", x.feed(0x41424331, 1), 1);
        Due.is("feed of 2", x.feed(0x41422b32, 2), 3);
        Due.is("feed of 3", x.feed(0x412b332a, 3), 6);
        Due.is("feed of 4", x.feed(0x342a352d, 4), 10);
        Due.is("feed of 1", x.feed('9', 1), 11);
        Due.is("text() of 1+2+3*4*5-9", x.text(), 0);
        Due.is("gives(0)", x.gives(0), 54);
    }

    static void promise22NumberBelow0() {
        NightDitch x = one();
        Due.is("feed(-1, 4)", x.feed(-1, 4), 4);
        Due.is("text()", x.text(), -1);
        x.wipe();
        Due.is("feed of a 7", x.feed(0xffffff37, 1), 1);
        Due.is("feed of a high byte", x.feed(0x80000000, 4), 5);
        Due.is("text()", x.text(), -2);
    }

    static void promise22RoomAgainBehindWipe() {
        NightDitch x = fed(60);
        x.wipe();
        for (int i = 1; i <= 15; i++) {
            Due.is("feed of 4", x.feed(0, 4), 4 * i);
        }
    }

    // ---- promise 23: wipe

    static void promise23EmptyTape() {
        NightDitch x = one();
        Due.is("wipe()", x.wipe(), 0);
        Due.is("count(6)", x.count(6), 0);
    }

    static void promise23FullTape() {
        NightDitch x = fed(60);
        Due.is("wipe()", x.wipe(), 60);
        Due.is("count(6)", x.count(6), 0);
        Due.is("wipe() again", x.wipe(), 0);
    }

    /** What THE TAPE had stands no more behind what it gets then. */
    static void promise23NothingIsLeftBehindTheEnd() {
        NightDitch x = one();
        Due.feed(x, "8+23");
        Due.is("wipe()", x.wipe(), 4);
        Due.feed(x, "7");
        Due.is("text()", x.text(), 0);
        Due.is("gives(0)", x.gives(0), 7);
        Due.feed(x, "6+");
        Due.is("text() that ends too early", x.text(), -3);
    }

    static void promise23TextStays() {
        NightDitch x = one();
        Due.say(x, "7");
        Due.feed(x, "12");
        Due.is("wipe()", x.wipe(), 2);
        Due.is("gives(0)", x.gives(0), 7);
    }

    // ---- promise 24: text

    static void promise24EmptyTape() {
        isFault("", 0);
    }

    static void promise24SixtyBytes() {
        isWorth("10" + "+1".repeat(29), 39);
        isWorth("-1" + "+1".repeat(29), 28);
        isWorth("-7" + "+7".repeat(29), 7 * 28);
        isWorth("(" + "d*".repeat(27) + "1111)", 1111);
    }

    static void promise24NumberOf1To4Digits() {
        isWorth("0", 0);
        isWorth("9", 9);
        isWorth("10", 10);
        isWorth("999", 999);
        isWorth("9999", 9999);
        isWorth("0007", 7);
        isWorth("0000", 0);
    }

    static void promise24FifthDigitIsAFault() {
        isFault("12345", 4);
        isFault("00000", 4);
        isFault("1+12345*", 6);
        isFault("123456789", 4);
    }

    static void promise24OtherSignsAreFaults() {
        isFault(" 1", 0);
        isFault("1 ", 1);
        isFault("1+ 2", 2);
        isFault("x", 0);
        isFault("D", 0);
        isFault("1;", 1);
        isFault("1/", 2);
        isFault("1.5", 1);
        isFault("1>2", 1);
        isFault("1\u0000", 1);
        isFault("1\u00b2", 1);
        isFault("\u00ff", 0);
    }

    static void promise24NoFactorBegins() {
        for (char sign : "+*/)<?:".toCharArray()) {
            isFault("" + sign, 0);
            isFault("1+" + sign, 2);
            isFault("(" + sign, 1);
            isFault("-" + sign, 1);
        }
        isFault("1+*2", 2);
        isFault("()", 1);
    }

    static void promise24NothingGoesOnBehindAFactor() {
        isFault("dd", 1);
        isFault("1d", 1);
        isFault("d1", 1);
        isFault("1(", 1);
        isFault("(1)1", 3);
        isFault("(1)(2)", 3);
        isFault("(1)d", 3);
        isFault("1)", 1);
        isFault("1<2", 1);
        isFault("1?2", 1);
        isFault("1:2", 1);
        isFault("(1))", 3);
    }

    static void promise24EachPartOfAChoiceInItsPlace() {
        isFault("(1?2:3)", 2);
        isFault("(1:2)", 2);
        isFault("(1<2)", 4);
        isFault("(1<2<3?1:2)", 4);
        isFault("(1<2:3?4)", 4);
        isFault("(1<2?3)", 6);
        isFault("(1<2?3?4:5)", 6);
        isFault("(1<2?3<4:5)", 6);
        isFault("(1<2?3:4:5)", 8);
        isFault("(1<2?3:4<5)", 8);
        isFault("(1<2?3:4?5)", 8);
    }

    /** Each beginning of a TEXT that is none by itself ends too early: the FAULT is how many bytes it has. */
    static void promise24EndsTooEarly() {
        String text = "(d-1<2*h?3/i:-(y+o))*n";
        for (int length = 0; length < text.length(); length++) {
            if (length == 20) {
                isWorth(text.substring(0, length), 0);
            } else {
                isFault(text.substring(0, length), length);
            }
        }
        isWorth(text, 0);
    }

    static void promise24SixtyBytesThatEndTooEarly() {
        isFault("(" + "1+".repeat(29) + "1", 60);
        isFault("1+".repeat(30), 60);
    }

    static void promise24FaultInTheLastByte() {
        isFault("1+".repeat(29) + "1)", 59);
    }

    static void promise24FiveBracketsAreOpen() {
        isWorth("(((((1)))))", 1);
        isWorth("1-(2-(3-(4-(5-(6)))))", -3);
        isFault("((((((1))))))", 5);
    }

    static void promise24FiveMinusAreOpen() {
        isWorth("-----1", -1);
        isFault("------1", 5);
    }

    static void promise24BracketsAndMinusAreCountedTogether() {
        isWorth("-(-(-1))", -1);
        isFault("-(-(-(1)))", 5);
        isWorth("((((-1))))", -1);
        isFault("((((--1))))", 5);
        isWorth("(----1)", 1);
        isFault("(-----1)", 5);
    }

    static void promise24MinusIsOpenTillItsFactorEnds() {
        isWorth("-----1-(((((2)))))", -3);
        isWorth("-(-(-1))-(-(-(2)))", -3);
        isWorth("(----1*-2)", -2);
        isWorth("(----1*----2)", 2);
        isFault("(----1*-----2)", 11);
        isWorth("-(1)*-(2)", 2);
        isWorth("----(1)-----(2)", -1);
    }

    static void promise24MinusBetweenTermsIsNotOpen() {
        isWorth("1-----2", -1);
        isWorth("1------2", 3);
        isFault("1-------2", 7);
        isWorth("(((((1-2)))))", -1);
        isFault("(((((1--2)))))", 7);
    }

    static void promise24BracketIsOpenTillItIsClosed() {
        isWorth("((((1)))+(((2)))*----1)", 3);
        isWorth("(((((1)))))+(((((2)))))", 3);
        isWorth("((((1)+((2))))+((((3)))))", 6);
        isFault("((((1)+((2))))+(((((3))))))", 19);
    }

    static void promise24ChoiceIsOpenInAllItsParts() {
        isWorth("(((((1<2?3:4)))))", 3);
        isWorth("((((-1<0?-5:-6))))", -5);
        isFault("(((((-1<2?3:4)))))", 5);
        isFault("(((((1<-2?3:4)))))", 7);
        isFault("(((((1<2?-3:4)))))", 9);
        isFault("(((((1<2?3:-4)))))", 11);
    }

    static void promise24ItIsTheTextThenAndTheTapeIsEmpty() {
        NightDitch x = one();
        Due.feed(x, "d+1");
        Due.is("text()", x.text(), 0);
        Due.is("count(6)", x.count(6), 0);
        Due.is("count(5)", x.count(5), 1);
        Due.is("gives(0)", x.gives(0), 2);
        Due.feed(x, "5");
        Due.is("text()", x.text(), 0);
        Due.is("gives(0)", x.gives(0), 5);
    }

    static void promise24FaultLeavesTapeAndText() {
        NightDitch x = one();
        Due.say(x, "7");
        Due.feed(x, "d+");
        Due.is("text()", x.text(), -3);
        Due.is("count(6)", x.count(6), 2);
        Due.is("gives(0)", x.gives(0), 7);
        Due.feed(x, "5");
        Due.is("text() of what is there now", x.text(), 0);
        Due.is("gives(0)", x.gives(0), 6);
        Due.is("text() of an empty TAPE", x.text(), -1);
        Due.is("gives(0)", x.gives(0), 6);
    }

    static void promise24LongTextBehindALongFault() {
        NightDitch x = one();
        Due.is("text of 60 that ends too early", Due.say(x, "1+".repeat(30)), -61);
        Due.is("text of 60", Due.say(x, "-1" + "+1".repeat(29)), 0);
        Due.is("gives(0)", x.gives(0), 28);
    }

    static void promise24FaultWithoutATextMakesNone() {
        NightDitch x = one();
        Due.feed(x, "9+");
        Due.is("text()", x.text(), -3);
        Due.is("count(5)", x.count(5), 0);
        Due.is("gives(0)", x.gives(0), 100);
    }

    static void promise24FaultIsNoFinding() {
        NightDitch x = one();
        Due.feed(x, "1+".repeat(30));
        Due.is("text()", x.text(), -61);
        Due.is("status(-1)", x.status(-1), 0);
    }

    // ---- promise 25: plain

    static void promise25WithoutAText() {
        NightDitch x = one();
        Due.is("plain()", x.plain(), 0);
        Due.is("count(5)", x.count(5), 0);
    }

    static void promise25WithAText() {
        NightDitch x = one();
        Due.say(x, "7");
        Due.is("PAYS", x.of(0, 7), 14);
        Due.is("plain()", x.plain(), 1);
        Due.is("plain() again", x.plain(), 0);
        Due.is("count(5)", x.count(5), 0);
        Due.is("gives(0)", x.gives(0), 100);
        Due.is("PAYS without", x.of(0, 7), 200);
    }

    static void promise25TextOf0IsAText() {
        NightDitch x = one();
        Due.say(x, "0");
        Due.is("gives(0)", x.gives(0), 0);
        Due.is("plain()", x.plain(), 1);
    }

    static void promise25TapeStays() {
        NightDitch x = one();
        Due.say(x, "7");
        Due.feed(x, "12");
        x.plain();
        Due.is("count(6)", x.count(6), 2);
        Due.is("text()", x.text(), 0);
        Due.is("gives(0)", x.gives(0), 12);
    }

    // ---- promise 26: gives

    static void promise26FarmTooSmall() {
        Due.refuses(TextTest::one, "gives(-1)", x -> x.gives(-1), Due.BEYOND);
        Due.refuses(TextTest::one, "gives(MIN)", x -> x.gives(Due.MIN), Due.BEYOND);
    }

    static void promise26FarmTooLarge() {
        Due.refuses(TextTest::one, "gives(1)", x -> x.gives(1), Due.BEYOND);
        Due.refuses(TextTest::full, "gives(8)", x -> x.gives(8), Due.BEYOND);
        Due.refuses(TextTest::one, "gives(MAX)", x -> x.gives(Due.MAX), Due.BEYOND);
    }

    static void promise26NoFarms() {
        Due.refuses(NightDitch::new, "gives(0)", x -> x.gives(0), Due.BEYOND);
    }

    static void promise26Is100WithoutAText() {
        NightDitch x = full();
        for (int farm = 0; farm < 8; farm++) {
            Due.is("gives(" + farm + ")", x.gives(farm), 100);
        }
    }

    static void promise26MayBeLikeAFinding() {
        NightDitch x = one();
        Due.say(x, "-1000*1000*1000-1");
        Due.is("gives(0)", x.gives(0), Due.BEYOND);
        Due.is("status(-1)", x.status(-1), 0);
    }

    static void promise26SignsBindAsTold() {
        isWorth("1-2-3", -4);
        isWorth("1-2*3", -5);
        isWorth("(1-2)*3", -3);
        isWorth("7/2*2", 6);
        isWorth("2*7/2", 7);
        isWorth("-2*-3", 6);
        isWorth("1--1", 2);
        isWorth("1+-1", 0);
        isWorth("-(1+2)*2", -6);
        isWorth("--5", 5);
        isWorth("-1+2", 1);
    }

    static void promise26QuotientsAreCut() {
        isWorth("7/2", 3);
        isWorth("-7/2", -3);
        isWorth("7/-2", -3);
        isWorth("-7/-2", 3);
        isWorth("(0-1)/2", 0);
    }

    static void promise26By0Is0() {
        isWorth("7/0", 0);
        isWorth("0/0", 0);
        isWorth("7/(1-1)+5", 5);
        isWorth("(0-8192*8192*32)/0", 0);
    }

    static void promise26SumsGoRound() {
        isWorth("8192*8192*32-1", Due.MAX);
        isWorth("(8192*8192*32-1)+1", Due.MIN);
        isWorth("-(8192*8192*32)-1", Due.MAX);
    }

    static void promise26ProductsGoRound() {
        isWorth("9999*9999*9999", 9999 * 9999 * 9999);
        isWorth("8192*8192*32", Due.MIN);
        isWorth("8192*8192*64", 0);
    }

    static void promise26MinusOfTheLeastGoesRound() {
        isWorth("-(8192*8192*32)", Due.MIN);
        isWorth("(0-8192*8192*32)/(0-1)", Due.MIN);
    }

    static void promise26ChoiceBelowAndNotBelow() {
        isWorth("(1<2?3:4)", 3);
        isWorth("(2<2?3:4)", 4);
        isWorth("(3<2?3:4)+10", 14);
        isWorth("(-1<0?1:2)", 1);
        isWorth("(8192*8192*32<8192*8192*32-1?1:2)", 1);
        isWorth("(8192*8192*32-1<8192*8192*32?1:2)", 2);
        isWorth("-(1+1<2*2?3-1:4)", -2);
        isWorth("((1<2?2:1)<(2<1?2:1)?10:(5<6?11:12))", 11);
    }

    private static void isNamed(NightDitch x, int farm, String name, int due) {
        Due.is("text " + name, Due.say(x, name), 0);
        Due.is("what " + name + " gives for " + farm, x.gives(farm), due);
        Due.is("PAYS by " + name, x.of(farm, 7), due);
    }

    static void promise26NamesAtTheirLeast() {
        NightDitch x = new NightDitch();
        x.farm(2, 1, 100);
        isNamed(x, 0, "d", 1);
        isNamed(x, 0, "y", 0);
        isNamed(x, 0, "h", 1);
        isNamed(x, 0, "i", 0);
        isNamed(x, 0, "n", 1);
        isNamed(x, 0, "o", 0);
    }

    static void promise26NamesAtTheirMost() {
        NightDitch x = full();
        x.dry(9);
        for (int year = 0; year < 99; year++) {
            x.year();
        }
        isNamed(x, 7, "d", 9);
        isNamed(x, 7, "y", 99);
        isNamed(x, 7, "h", 24);
        isNamed(x, 7, "i", 7);
        isNamed(x, 7, "n", 8);
        isNamed(x, 7, "o", 7);
    }

    static void promise26NamesOfThisFarm() {
        NightDitch x = new NightDitch();
        for (int i = 0; i < 5; i++) {
            x.farm(2, 10 + i, 100);
        }
        x.dry(6);
        x.year();
        x.year();
        x.swap(3, 1);
        String[] names = {"d", "y", "h", "i", "n", "o"};
        int[] due = {6, 2, 13, 3, 5, 1};
        for (int k = 0; k < names.length; k++) {
            isNamed(x, 3, names[k], due[k]);
        }
    }
}
