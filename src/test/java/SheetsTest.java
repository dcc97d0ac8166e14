/** Promises 31 to 35: sheet, write, copy, worths, read. */
public final class SheetsTest {
    private static final int MILLION = 1000000;

    public static void main(String[] args) throws ReflectiveOperationException {
        Due.run(SheetsTest.class, 31, 35);
        Due.end();
    }

    /** 10, 11, .. on sheet 0 (16 bits, 6 numbers); sheets 1 (16 bits) and 2 (8 bits) have 4, sheet 3 is MISSING. */
    private static NightDitch written() {
        NightDitch x = new NightDitch();
        x.sheet(0, 16, 6);
        x.sheet(1, 16, 4);
        x.sheet(2, 8, 4);
        for (int i = 0; i < 6; i++) {
            x.write(0, i, 10 + i);
        }
        for (int i = 0; i < 4; i++) {
            x.write(1, i, 20 + i);
            x.write(2, i, 30 + i);
        }
        return x;
    }

    private static void isSheet(NightDitch x, int s, long... due) {
        for (int i = 0; i < due.length; i++) {
            long v = x.write(s, i, 0);
            x.write(s, i, v);
            Due.is("number " + i + " of sheet " + s, v, due[i]);
        }
        Due.is("a number behind the last", x.write(s, due.length, 0), Due.BEYOND);
    }

    private static void put(NightDitch x, int s, int bits, long... numbers) {
        Due.is("sheet(" + s + ", " + bits + ", ..)", x.sheet(s, bits, numbers.length), numbers.length);
        for (int i = 0; i < numbers.length; i++) {
            x.write(s, i, numbers[i]);
        }
    }

    // ---- promise 31: sheet

    static void promise31SheetTooSmall() {
        Due.refuses(SheetsTest::written, "sheet(-1, 8, 1)", x -> x.sheet(-1, 8, 1), Due.BEYOND);
        Due.refuses(SheetsTest::written, "sheet(MIN, 8, 1)", x -> x.sheet(Due.MIN, 8, 1), Due.BEYOND);
    }

    static void promise31SheetTooLarge() {
        Due.refuses(SheetsTest::written, "sheet(4, 8, 1)", x -> x.sheet(4, 8, 1), Due.BEYOND);
        Due.refuses(SheetsTest::written, "sheet(MAX, 0, 1)", x -> x.sheet(Due.MAX, 0, 1), Due.BEYOND);
    }

    static void promise31OtherBits() {
        for (int other : new int[] {-8, -1, 1, 7, 9, 15, 17, 24, 32, 63, 65, 128, Due.MIN, Due.MAX}) {
            Due.refuses(SheetsTest::written, "sheet(1, " + other + ", 1)", x -> x.sheet(1, other, 1), Due.BEYOND);
        }
    }

    static void promise31FewerNumbersThanNone() {
        for (int each : new int[] {8, 16, 64}) {
            Due.refuses(SheetsTest::written, "sheet(1, " + each + ", -1)", x -> x.sheet(1, each, -1), Due.SIZE);
        }
        Due.refuses(SheetsTest::written, "sheet(1, 64, MIN)", x -> x.sheet(1, 64, Due.MIN), Due.SIZE);
    }

    static void promise31FewerThanNoneWithBits0() {
        Due.refuses(SheetsTest::written, "sheet(1, 0, -1)", x -> x.sheet(1, 0, -1), Due.SIZE);
        Due.refuses(SheetsTest::written, "sheet(3, 0, MIN)", x -> x.sheet(3, 0, Due.MIN), Due.SIZE);
    }

    static void promise31MoreThan40() {
        for (int each : new int[] {8, 16, 64}) {
            Due.refuses(SheetsTest::written, "sheet(1, " + each + ", 41)", x -> x.sheet(1, each, 41), Due.BEYOND);
        }
        Due.refuses(SheetsTest::written, "sheet(1, 8, MAX)", x -> x.sheet(1, 8, Due.MAX), Due.BEYOND);
    }

    static void promise31MoreThan40WithBits0() {
        Due.refuses(SheetsTest::written, "sheet(1, 0, 41)", x -> x.sheet(1, 0, 41), Due.BEYOND);
        Due.refuses(SheetsTest::written, "sheet(3, 0, MAX)", x -> x.sheet(3, 0, Due.MAX), Due.BEYOND);
    }

    static void promise31BeyondIsAskedBeforeSize() {
        Due.refuses(SheetsTest::written, "sheet(4, 8, -1)", x -> x.sheet(4, 8, -1), Due.BEYOND);
        Due.refuses(SheetsTest::written, "sheet(-1, 0, -1)", x -> x.sheet(-1, 0, -1), Due.BEYOND);
        Due.refuses(SheetsTest::written, "sheet(1, 7, -1)", x -> x.sheet(1, 7, -1), Due.BEYOND);
    }

    static void promise31NoneAnd40Numbers() {
        for (int bits : new int[] {8, 16, 64}) {
            for (int s = 0; s < 4; s++) {
                NightDitch x = new NightDitch();
                Due.is("sheet(.., 40)", x.sheet(s, bits, 40), 40);
                isSheet(x, s, new long[40]);
                Due.is("sheet(.., 0)", x.sheet(s, bits, 0), 0);
                isSheet(x, s);
            }
        }
    }

    static void promise31AllAre0Again() {
        NightDitch x = written();
        Due.is("sheet(0, 16, 6)", x.sheet(0, 16, 6), 6);
        isSheet(x, 0, 0, 0, 0, 0, 0, 0);
        isSheet(x, 1, 20, 21, 22, 23);
    }

    static void promise31ShorterAndLongerAgain() {
        NightDitch x = written();
        Due.is("sheet(0, 64, 2)", x.sheet(0, 64, 2), 2);
        isSheet(x, 0, 0, 0);
        Due.is("sheet(0, 8, 6)", x.sheet(0, 8, 6), 6);
        isSheet(x, 0, 0, 0, 0, 0, 0, 0);
    }

    static void promise31MissingAgain() {
        for (int n : new int[] {0, 1, 40}) {
            NightDitch x = written();
            Due.is("sheet(0, 0, " + n + ")", x.sheet(0, 0, n), 0);
            Due.is("write(0, 0, 1)", x.write(0, 0, 1), Due.MISSING);
            Due.is("sheet(0, 0, " + n + ") again", x.sheet(0, 0, n), 0);
            Due.is("sheet(0, 16, 1)", x.sheet(0, 16, 1), 1);
            isSheet(x, 0, 0);
        }
    }

    // ---- promise 32: write

    static void promise32SheetTooSmall() {
        Due.refuses(SheetsTest::written, "write(-1, 0, 1)", x -> x.write(-1, 0, 1), Due.BEYOND);
        Due.refuses(SheetsTest::written, "write(MIN, 0, 1)", x -> x.write(Due.MIN, 0, 1), Due.BEYOND);
    }

    static void promise32SheetTooLarge() {
        Due.refuses(SheetsTest::written, "write(4, 0, 1)", x -> x.write(4, 0, 1), Due.BEYOND);
        Due.refuses(SheetsTest::written, "write(MAX, 0, 1)", x -> x.write(Due.MAX, 0, 1), Due.BEYOND);
    }

    static void promise32Missing() {
        Due.refuses(SheetsTest::written, "write(3, 0, 1)", x -> x.write(3, 0, 1), Due.MISSING);
    }

    static void promise32NumberTooSmall() {
        Due.refuses(SheetsTest::written, "write(0, -1, 1)", x -> x.write(0, -1, 1), Due.BEYOND);
        Due.refuses(SheetsTest::written, "write(0, MIN, 1)", x -> x.write(0, Due.MIN, 1), Due.BEYOND);
    }

    static void promise32NumberTooLarge() {
        Due.refuses(SheetsTest::written, "write(0, 6, 1)", x -> x.write(0, 6, 1), Due.BEYOND);
        Due.refuses(SheetsTest::written, "write(0, 40, 1)", x -> x.write(0, 40, 1), Due.BEYOND);
        Due.refuses(SheetsTest::written, "write(0, MAX, 1)", x -> x.write(0, Due.MAX, 1), Due.BEYOND);
    }

    static void promise32SheetWithoutNumbers() {
        NightDitch x = new NightDitch();
        x.sheet(0, 8, 0);
        Due.is("write(0, 0, 1)", x.write(0, 0, 1), Due.BEYOND);
    }

    static void promise32MissingIsAskedBeforeTheNumber() {
        Due.refuses(SheetsTest::written, "write(3, -1, 1)", x -> x.write(3, -1, 1), Due.MISSING);
        Due.refuses(SheetsTest::written, "write(3, 40, 1)", x -> x.write(3, 40, 1), Due.MISSING);
    }

    static void promise32NoSuchSheetIsAskedBeforeTheNumber() {
        Due.refuses(SheetsTest::written, "write(4, -1, 1)", x -> x.write(4, -1, 1), Due.BEYOND);
    }

    static void promise32FirstAndLastNumber() {
        NightDitch x = new NightDitch();
        x.sheet(3, 64, 40);
        Due.is("write(3, 0, 5)", x.write(3, 0, 5), 0);
        Due.is("write(3, 39, 6)", x.write(3, 39, 6), 0);
        long[] due = new long[40];
        due[0] = 5;
        due[39] = 6;
        isSheet(x, 3, due);
    }

    private static void isWritten(int bits, long v, long due) {
        NightDitch x = new NightDitch();
        x.sheet(0, bits, 3);
        Due.is("write of " + v, x.write(0, 1, v), 0);
        isSheet(x, 0, 0, due, 0);
    }

    static void promise32LowestBitsOf8() {
        isWritten(8, 127, 127);
        isWritten(8, 128, -128);
        isWritten(8, 255, -1);
        isWritten(8, 256, 0);
        isWritten(8, 256 + 5, 5);
        isWritten(8, -128, -128);
        isWritten(8, -129, 127);
        isWritten(8, Long.MAX_VALUE, -1);
        isWritten(8, Long.MIN_VALUE, 0);
    }

    static void promise32LowestBitsOf16() {
        isWritten(16, 32767, 32767);
        isWritten(16, 32768, -32768);
        isWritten(16, 65535, -1);
        isWritten(16, 65536, 0);
        isWritten(16, 65536 + 7, 7);
        isWritten(16, -32768, -32768);
        isWritten(16, -32769, 32767);
        isWritten(16, Long.MAX_VALUE, -1);
        isWritten(16, Long.MIN_VALUE, 0);
    }

    static void promise32AllBitsOf64() {
        isWritten(64, Long.MAX_VALUE, Long.MAX_VALUE);
        isWritten(64, Long.MIN_VALUE, Long.MIN_VALUE);
        isWritten(64, 1L << 32, 1L << 32);
    }

    static void promise32MayBeLikeAFinding() {
        NightDitch x = new NightDitch();
        x.sheet(0, 64, 1);
        x.write(0, 0, Due.BEYOND);
        Due.is("write(0, 0, 0)", x.write(0, 0, 0), Due.BEYOND);
        Due.is("status(-1)", x.status(-1), 0);
    }

    // ---- promise 33: copy

    static void promise33SheetTooSmall() {
        Due.refuses(SheetsTest::written, "copy from sheet -1", x -> x.copy(-1, 0, 0, 0, 1), Due.BEYOND);
        Due.refuses(SheetsTest::written, "copy to sheet -1", x -> x.copy(0, 0, -1, 0, 1), Due.BEYOND);
        Due.refuses(SheetsTest::written, "copy of MIN to MIN", x -> x.copy(Due.MIN, 0, Due.MIN, 0, 1), Due.BEYOND);
    }

    static void promise33SheetTooLarge() {
        Due.refuses(SheetsTest::written, "copy from sheet 4", x -> x.copy(4, 0, 0, 0, 1), Due.BEYOND);
        Due.refuses(SheetsTest::written, "copy to sheet 4", x -> x.copy(0, 0, 4, 0, 1), Due.BEYOND);
        Due.refuses(SheetsTest::written, "copy of MAX to MAX", x -> x.copy(Due.MAX, 0, Due.MAX, 0, 1), Due.BEYOND);
    }

    static void promise33OneIsMissing() {
        Due.refuses(SheetsTest::written, "copy from sheet 3", x -> x.copy(3, 0, 0, 0, 1), Due.MISSING);
        Due.refuses(SheetsTest::written, "copy to sheet 3", x -> x.copy(0, 0, 3, 0, 1), Due.MISSING);
        Due.refuses(SheetsTest::written, "copy of sheet 3 to itself", x -> x.copy(3, 0, 3, 0, 0), Due.MISSING);
    }

    static void promise33NotOfAsManyBits() {
        Due.refuses(SheetsTest::written, "copy from 16 to 8", x -> x.copy(0, 0, 2, 0, 1), Due.KIND);
        Due.refuses(SheetsTest::written, "copy from 8 to 16", x -> x.copy(2, 0, 0, 0, 1), Due.KIND);
        Due.refuses(SheetsTest::written, "copy of none from 16 to 8", x -> x.copy(0, 0, 2, 0, 0), Due.KIND);
    }

    static void promise33OneHasNotSoMany() {
        Due.refuses(SheetsTest::written, "copy from behind", x -> x.copy(0, 5, 1, 0, 2), Due.BEYOND);
        Due.refuses(SheetsTest::written, "copy to behind", x -> x.copy(0, 0, 1, 3, 2), Due.BEYOND);
        Due.refuses(SheetsTest::written, "copy of more than the first has", x -> x.copy(1, 0, 0, 0, 5), Due.BEYOND);
        Due.refuses(SheetsTest::written, "copy of more than the other has", x -> x.copy(0, 0, 1, 0, 5), Due.BEYOND);
    }

    static void promise33NoneFromBehindTheEnd() {
        Due.refuses(SheetsTest::written, "copy of none from 7", x -> x.copy(0, 7, 1, 0, 0), Due.BEYOND);
        Due.refuses(SheetsTest::written, "copy of none to 5", x -> x.copy(0, 0, 1, 5, 0), Due.BEYOND);
    }

    static void promise33FromBelow0() {
        Due.refuses(SheetsTest::written, "copy from -1", x -> x.copy(0, -1, 1, 0, 1), Due.BEYOND);
        Due.refuses(SheetsTest::written, "copy of none from -1", x -> x.copy(0, -1, 1, 0, 0), Due.BEYOND);
        Due.refuses(SheetsTest::written, "copy from MIN", x -> x.copy(0, Due.MIN, 1, 0, 1), Due.BEYOND);
    }

    static void promise33ToBelow0() {
        Due.refuses(SheetsTest::written, "copy to -1", x -> x.copy(0, 0, 1, -1, 1), Due.BEYOND);
        Due.refuses(SheetsTest::written, "copy of none to -1", x -> x.copy(0, 0, 1, -1, 0), Due.BEYOND);
        Due.refuses(SheetsTest::written, "copy to MIN", x -> x.copy(0, 0, 1, Due.MIN, 1), Due.BEYOND);
    }

    static void promise33NBelow0() {
        Due.refuses(SheetsTest::written, "copy of -1", x -> x.copy(0, 2, 1, 2, -1), Due.BEYOND);
        Due.refuses(SheetsTest::written, "copy of MIN", x -> x.copy(0, 1, 1, 1, Due.MIN), Due.BEYOND);
    }

    static void promise33SumsThatGoRound() {
        Due.refuses(SheetsTest::written, "copy from MAX", x -> x.copy(0, Due.MAX, 1, 0, 1), Due.BEYOND);
        Due.refuses(SheetsTest::written, "copy to MAX", x -> x.copy(0, 0, 1, Due.MAX, 1), Due.BEYOND);
        Due.refuses(SheetsTest::written, "copy of MAX", x -> x.copy(0, 1, 1, 1, Due.MAX), Due.BEYOND);
        Due.refuses(SheetsTest::written, "copy of all MAX", x -> x.copy(0, Due.MAX, 1, Due.MAX, Due.MAX), Due.BEYOND);
        Due.refuses(SheetsTest::written, "copy of all MIN", x -> x.copy(0, Due.MIN, 1, Due.MIN, Due.MIN), Due.BEYOND);
    }

    static void promise33NoSuchSheetIsAskedFirst() {
        Due.refuses(SheetsTest::written, "copy from a MISSING one to 4", x -> x.copy(3, 0, 4, 0, 1), Due.BEYOND);
        Due.refuses(SheetsTest::written, "copy from 4 to a MISSING one", x -> x.copy(4, 0, 3, 0, 1), Due.BEYOND);
    }

    static void promise33MissingIsAskedBeforeKindAndNumbers() {
        Due.refuses(SheetsTest::written, "copy to a MISSING one", x -> x.copy(0, -1, 3, 0, 1), Due.MISSING);
        Due.refuses(SheetsTest::written, "copy from a MISSING one", x -> x.copy(3, 0, 2, 9, 1), Due.MISSING);
    }

    static void promise33KindIsAskedBeforeNumbers() {
        Due.refuses(SheetsTest::written, "copy from 16 to 8, from -1", x -> x.copy(0, -1, 2, 0, 1), Due.KIND);
        Due.refuses(SheetsTest::written, "copy from 16 to 8 of 41", x -> x.copy(0, 0, 2, 0, 41), Due.KIND);
    }

    static void promise33ToAnother() {
        NightDitch x = written();
        Due.is("copy(0, 1, 1, 2, 2)", x.copy(0, 1, 1, 2, 2), 2);
        isSheet(x, 1, 20, 21, 11, 12);
        isSheet(x, 0, 10, 11, 12, 13, 14, 15);
    }

    static void promise33None() {
        NightDitch x = written();
        Due.is("copy of none", x.copy(0, 0, 1, 0, 0), 0);
        Due.is("copy of none, at both ends", x.copy(0, 6, 1, 4, 0), 0);
        isSheet(x, 1, 20, 21, 22, 23);
        NightDitch empty = new NightDitch();
        empty.sheet(0, 8, 0);
        empty.sheet(1, 8, 0);
        Due.is("copy of none of none", empty.copy(0, 0, 1, 0, 0), 0);
    }

    static void promise33All() {
        NightDitch x = written();
        Due.is("copy(1, 0, 0, 2, 4)", x.copy(1, 0, 0, 2, 4), 4);
        isSheet(x, 0, 10, 11, 20, 21, 22, 23);
        Due.is("copy(0, 0, 0, 0, 6)", x.copy(0, 0, 0, 0, 6), 6);
        isSheet(x, 0, 10, 11, 20, 21, 22, 23);
    }

    static void promise33AllOf40() {
        NightDitch x = new NightDitch();
        x.sheet(0, 64, 40);
        x.sheet(3, 64, 40);
        x.write(0, 39, Long.MIN_VALUE);
        Due.is("copy(0, 0, 3, 0, 40)", x.copy(0, 0, 3, 0, 40), 40);
        Due.is("the last", x.write(3, 39, 0), Long.MIN_VALUE);
        Due.refuses(() -> {
            NightDitch y = new NightDitch();
            y.sheet(0, 64, 40);
            return y;
        }, "copy of 41", y -> y.copy(0, 0, 0, 0, 41), Due.BEYOND);
    }

    static void promise33AsTheyAllWere() {
        NightDitch up = written();
        Due.is("copy(0, 0, 0, 2, 4)", up.copy(0, 0, 0, 2, 4), 4);
        isSheet(up, 0, 10, 11, 10, 11, 12, 13);
        NightDitch down = written();
        Due.is("copy(0, 1, 0, 0, 5)", down.copy(0, 1, 0, 0, 5), 5);
        isSheet(down, 0, 11, 12, 13, 14, 15, 15);
    }

    // ---- promise 34: worths

    /** FARMS of WORTH 50, 51, .., the last one's turn first. */
    private static NightDitch four() {
        NightDitch x = new NightDitch();
        for (int i = 0; i < 4; i++) {
            x.farm(2, 1, 50 + i);
        }
        x.turns(03210);
        return x;
    }

    private static void isWorths(NightDitch x, int s, int came, int... due) {
        Due.is("worths(" + s + ")", x.worths(s), came);
        for (int farm = 0; farm < due.length; farm++) {
            Due.is("WORTH of " + farm, x.of(farm, 2), due[farm]);
        }
    }

    static void promise34SheetTooSmall() {
        Due.refuses(SheetsTest::four, "worths(-1)", x -> x.worths(-1), Due.BEYOND);
        Due.refuses(SheetsTest::four, "worths(MIN)", x -> x.worths(Due.MIN), Due.BEYOND);
    }

    static void promise34SheetTooLarge() {
        Due.refuses(SheetsTest::four, "worths(4)", x -> x.worths(4), Due.BEYOND);
        Due.refuses(SheetsTest::four, "worths(MAX)", x -> x.worths(Due.MAX), Due.BEYOND);
    }

    static void promise34Missing() {
        for (int s = 0; s < 4; s++) {
            int sheet = s;
            Due.refuses(SheetsTest::four, "worths(" + s + ")", x -> x.worths(sheet), Due.MISSING);
        }
    }

    static void promise34From0To999() {
        NightDitch x = four();
        put(x, 0, 64, 0, 999, 1, 998);
        isWorths(x, 0, 4, 0, 999, 1, 998);
    }

    static void promise34OthersAreLeftOut() {
        NightDitch x = four();
        put(x, 0, 64, -1, 1000, 7, Long.MIN_VALUE);
        isWorths(x, 0, 1, 50, 51, 7, 53);
    }

    static void promise34BeyondAnIntIsLeftOut() {
        NightDitch x = four();
        put(x, 0, 64, (1L << 32) + 7, Long.MAX_VALUE, -(1L << 32) + 7, 1L << 32);
        isWorths(x, 0, 0, 50, 51, 52, 53);
    }

    static void promise34OfNoFarmAreLeftOut() {
        NightDitch x = four();
        put(x, 0, 16, 1, 2, 3, 4, 5, 6);
        isWorths(x, 0, 4, 1, 2, 3, 4);
        Due.is("count(0)", x.count(0), 4);
        NightDitch none = new NightDitch();
        put(none, 0, 8, 1, 2);
        Due.is("worths(0) without farms", none.worths(0), 0);
        none.farm(2, 1, 77);
        Due.is("WORTH of a new FARM", none.of(0, 2), 77);
    }

    static void promise34FewerNumbersThanFarms() {
        NightDitch x = four();
        put(x, 0, 8, 5, 6);
        isWorths(x, 0, 2, 5, 6, 52, 53);
        x.sheet(0, 8, 0);
        isWorths(x, 0, 0, 5, 6, 52, 53);
    }

    static void promise34SignsOf8And16Bits() {
        NightDitch x = four();
        put(x, 0, 8, 127, 128, 200, 255);
        isWorths(x, 0, 1, 127, 51, 52, 53);
        put(x, 1, 16, 999, 1000, 65535, 65536 + 8);
        isWorths(x, 1, 2, 999, 51, 52, 8);
    }

    static void promise34EightFarms() {
        NightDitch x = new NightDitch();
        for (int i = 0; i < 8; i++) {
            x.farm(2, 1, 50);
        }
        put(x, 3, 16, 1, 2, 3, 4, 5, 6, 7, 8, 9);
        isWorths(x, 3, 8, 1, 2, 3, 4, 5, 6, 7, 8);
    }

    // ---- promise 35: read

    /** HONEST ones: all P are 0; but FARM 1 takes always. */
    private static NightDitch meets(int farms) {
        NightDitch x = new NightDitch();
        for (int i = 0; i < farms; i++) {
            x.farm(i == 1 ? 2 : 1, 1, 10);
        }
        return x;
    }

    private static NightDitch three() {
        return meets(3);
    }

    private static void isRead(int farms, int due, long... numbers) {
        NightDitch x = meets(farms);
        put(x, 2, 64, numbers);
        Due.is("read(2)", x.read(2), due);
    }

    static void promise35SheetTooSmall() {
        Due.refuses(SheetsTest::three, "read(-1)", x -> x.read(-1), Due.BEYOND);
        Due.refuses(SheetsTest::three, "read(MIN)", x -> x.read(Due.MIN), Due.BEYOND);
    }

    static void promise35SheetTooLarge() {
        Due.refuses(SheetsTest::three, "read(4)", x -> x.read(4), Due.BEYOND);
        Due.refuses(SheetsTest::three, "read(MAX)", x -> x.read(Due.MAX), Due.BEYOND);
    }

    static void promise35Missing() {
        for (int s = 0; s < 4; s++) {
            int sheet = s;
            Due.refuses(SheetsTest::three, "read(" + s + ")", x -> x.read(sheet), Due.MISSING);
        }
    }

    static void promise35AllAreRight() {
        isRead(3, 0, MILLION, 0, 0);
        isRead(8, 0, MILLION, 0, 0, 0, 0, 0, 0, 0);
    }

    static void promise35AsManyAsThereAre() {
        isRead(3, 0);
        isRead(3, 0, MILLION);
        isRead(3, 0, MILLION, 0);
    }

    static void promise35FirstIsNotRight() {
        isRead(3, 1, MILLION - 1, 0, 0);
        isRead(3, 1, MILLION + 1, 1, 1);
        isRead(3, 1, -MILLION);
    }

    static void promise35LastIsNotRight() {
        isRead(3, 3, MILLION, 0, 1);
        isRead(8, 8, MILLION, 0, 0, 0, 0, 0, 0, -1);
    }

    static void promise35FirstOfSeveral() {
        isRead(3, 2, MILLION, 5, 5);
        isRead(3, 2, MILLION, 5, 0);
    }

    static void promise35BeyondAnIntIsNotRight() {
        isRead(3, 1, MILLION + (1L << 32), 0, 0);
        isRead(3, 2, MILLION, 1L << 32, 0);
    }

    static void promise35StandsForNoMeet() {
        isRead(3, 4, MILLION, 0, 0, 0);
        isRead(8, 9, MILLION, 0, 0, 0, 0, 0, 0, 0, 0);
    }

    static void promise35NoMeetsWithFewerThanTwoFarms() {
        isRead(0, 1, 0);
        isRead(1, 1, 0, 0);
        isRead(0, 0);
        isRead(1, 0);
    }

    static void promise35ByTheTurns() {
        NightDitch x = three();
        x.swap(1, 2);
        put(x, 0, 64, 0, MILLION, 0);
        Due.is("read(0)", x.read(0), 0);
    }

    static void promise35NumbersOf8Bits() {
        NightDitch x = three();
        put(x, 0, 8, MILLION, 0, 0);
        Due.is("read(0): the lowest bits alone stand there", x.read(0), 1);
        x.set(1, 1, 0);
        put(x, 0, 8, 256, 0, 0);
        Due.is("read(0) of nothing that is taken", x.read(0), 0);
    }

    static void promise35NotWhatWasAtRestBefore() {
        NightDitch x = three();
        put(x, 0, 64, MILLION, 0, 0);
        Due.is("read(0)", x.read(0), 0);
        x.set(1, 1, 0);
        Due.is("read(0) of a WORTH of 0", x.read(0), 1);
    }
}
