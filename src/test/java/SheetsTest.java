/** Promises 31 to 35: sheet, write, copy, worths, read. */
public final class SheetsTest {
    public static void main(String[] args) {
        sheet();
        write();
        copy();
        copyRefused();
        worths();
        read();
        Due.end();
    }

    private static void sheet() {
        NightDitch x = new NightDitch();
        Due.is("sheet(0, 8, 40)", x.sheet(0, 8, 40), 40);
        Due.is("sheet(3, 16, 0)", x.sheet(3, 16, 0), 0);
        Due.refuses(x, "write(3, 0, 1) of no numbers", () -> x.write(3, 0, 1), Due.BEYOND);
        Due.is("sheet(1, 64, 2)", x.sheet(1, 64, 2), 2);
        x.write(1, 0, 8);
        x.write(1, 1, 9);
        Due.is("sheet(1, 64, 3) again", x.sheet(1, 64, 3), 3);
        isSheet("all are 0", x, 1, 0, 0, 0);
        Due.refuses(x, "sheet(-1, 8, 1)", () -> x.sheet(-1, 8, 1), Due.BEYOND);
        Due.refuses(x, "sheet(4, 8, 1)", () -> x.sheet(4, 8, 1), Due.BEYOND);
        Due.refuses(x, "sheet(1, 32, 1)", () -> x.sheet(1, 32, 1), Due.BEYOND);
        Due.refuses(x, "sheet(1, -8, 1)", () -> x.sheet(1, -8, 1), Due.BEYOND);
        Due.refuses(x, "sheet(1, 7, -1)", () -> x.sheet(1, 7, -1), Due.BEYOND);
        Due.refuses(x, "sheet(4, 8, -1)", () -> x.sheet(4, 8, -1), Due.BEYOND);
        Due.refuses(x, "sheet(1, 8, -1)", () -> x.sheet(1, 8, -1), Due.SIZE);
        Due.refuses(x, "sheet(1, 0, -1)", () -> x.sheet(1, 0, -1), Due.SIZE);
        Due.refuses(x, "sheet(1, 64, MIN)", () -> x.sheet(1, 64, Integer.MIN_VALUE), Due.SIZE);
        Due.refuses(x, "sheet(1, 8, 41)", () -> x.sheet(1, 8, 41), Due.BEYOND);
        Due.refuses(x, "sheet(1, 0, 41)", () -> x.sheet(1, 0, 41), Due.BEYOND);
        Due.is("sheet(1, 0, 40)", x.sheet(1, 0, 40), 0);
        Due.refuses(x, "write(1, 0, 1)", () -> x.write(1, 0, 1), Due.MISSING);
        Due.is("sheet(1, 0, 0)", x.sheet(1, 0, 0), 0);
    }

    private static void write() {
        NightDitch x = new NightDitch();
        x.sheet(0, 8, 2);
        x.sheet(1, 16, 2);
        x.sheet(2, 64, 2);
        Due.is("write(0, 1, 127)", x.write(0, 1, 127), 0);
        Due.is("write(0, 1, -128)", x.write(0, 1, -128), 127);
        Due.is("write(0, 1, 256 + 5)", x.write(0, 1, 256 + 5), -128);
        Due.is("write(0, 1, 255)", x.write(0, 1, 255), 5);
        Due.is("write(0, 1, 0)", x.write(0, 1, 0), -1);
        Due.is("write(1, 0, 32767)", x.write(1, 0, 32767), 0);
        Due.is("write(1, 0, 32768)", x.write(1, 0, 32768), 32767);
        Due.is("write(1, 0, 65536 + 7)", x.write(1, 0, 65536 + 7), -32768);
        Due.is("write(1, 0, 0)", x.write(1, 0, 0), 7);
        Due.is("write(2, 0, MIN)", x.write(2, 0, Long.MIN_VALUE), 0);
        Due.is("write(2, 0, MAX)", x.write(2, 0, Long.MAX_VALUE), Long.MIN_VALUE);
        int findings = x.status(-1);
        Due.is("write(2, 0, BEYOND)", x.write(2, 0, Due.BEYOND), Long.MAX_VALUE);
        Due.is("write(2, 0, 0)", x.write(2, 0, 0), Due.BEYOND);
        Due.is("which is no finding", x.status(-1), findings);
        Due.is("the number beside it", x.write(2, 1, 0), 0);
        Due.refuses(x, "write(-1, 0, 1)", () -> x.write(-1, 0, 1), Due.BEYOND);
        Due.refuses(x, "write(4, 0, 1)", () -> x.write(4, 0, 1), Due.BEYOND);
        Due.refuses(x, "write(3, 0, 1)", () -> x.write(3, 0, 1), Due.MISSING);
        Due.refuses(x, "write(3, -1, 1)", () -> x.write(3, -1, 1), Due.MISSING);
        Due.refuses(x, "write(0, -1, 1)", () -> x.write(0, -1, 1), Due.BEYOND);
        Due.refuses(x, "write(0, 2, 1)", () -> x.write(0, 2, 1), Due.BEYOND);
    }

    private static NightDitch written() {
        NightDitch x = new NightDitch();
        x.sheet(0, 16, 6);
        x.sheet(1, 16, 4);
        x.sheet(2, 8, 4);
        for (int i = 0; i < 6; i++) {
            x.write(0, i, 10 + i);
        }
        return x;
    }

    private static void isSheet(String which, NightDitch x, int s, int... due) {
        for (int i = 0; i < due.length; i++) {
            long v = x.write(s, i, 0);
            x.write(s, i, v);
            Due.is(which + ", number " + i, v, due[i]);
        }
    }

    private static void copy() {
        NightDitch x = written();
        Due.is("copy(0, 1, 1, 2, 2)", x.copy(0, 1, 1, 2, 2), 2);
        isSheet("copied", x, 1, 0, 0, 11, 12);
        isSheet("copied from", x, 0, 10, 11, 12, 13, 14, 15);
        Due.is("copy(0, 0, 0, 2, 4)", x.copy(0, 0, 0, 2, 4), 4);
        isSheet("copied up", x, 0, 10, 11, 10, 11, 12, 13);
        NightDitch y = written();
        Due.is("copy(0, 1, 0, 0, 5)", y.copy(0, 1, 0, 0, 5), 5);
        isSheet("copied down", y, 0, 11, 12, 13, 14, 15, 15);
        Due.is("copy of none, at both ends", y.copy(0, 6, 1, 4, 0), 0);
        Due.is("copy of all", y.copy(1, 0, 0, 2, 4), 4);
        isSheet("copied all", y, 0, 11, 12, 0, 0, 0, 0);
    }

    private static void copyRefused() {
        NightDitch x = written();
        Due.refuses(x, "copy from sheet -1", () -> x.copy(-1, 0, 0, 0, 1), Due.BEYOND);
        Due.refuses(x, "copy to sheet 4", () -> x.copy(0, 0, 4, 0, 1), Due.BEYOND);
        Due.refuses(x, "copy from sheet 3 to 4", () -> x.copy(3, 0, 4, 0, 1), Due.BEYOND);
        Due.refuses(x, "copy from sheet 3", () -> x.copy(3, 0, 2, 0, 1), Due.MISSING);
        Due.refuses(x, "copy to sheet 3", () -> x.copy(0, -1, 3, 0, 1), Due.MISSING);
        Due.refuses(x, "copy from 16 to 8", () -> x.copy(0, -1, 2, 0, 1), Due.KIND);
        Due.refuses(x, "copy from -1", () -> x.copy(0, -1, 1, 0, 1), Due.BEYOND);
        Due.refuses(x, "copy to -1", () -> x.copy(0, 0, 1, -1, 1), Due.BEYOND);
        Due.refuses(x, "copy of -1", () -> x.copy(0, 2, 1, 2, -1), Due.BEYOND);
        Due.refuses(x, "copy from behind", () -> x.copy(0, 5, 1, 0, 2), Due.BEYOND);
        Due.refuses(x, "copy to behind", () -> x.copy(0, 0, 1, 3, 2), Due.BEYOND);
        Due.refuses(x, "copy of none from behind", () -> x.copy(0, 7, 1, 0, 0), Due.BEYOND);
        Due.refuses(x, "copy of none to behind", () -> x.copy(0, 0, 1, 5, 0), Due.BEYOND);
        int max = Integer.MAX_VALUE;
        Due.refuses(x, "copy from MAX", () -> x.copy(0, max, 1, 0, 1), Due.BEYOND);
        Due.refuses(x, "copy of MAX", () -> x.copy(0, 1, 1, 1, max), Due.BEYOND);
        Due.refuses(x, "copy of MAX to MAX", () -> x.copy(0, max, 1, max, max), Due.BEYOND);
        Due.refuses(x, "copy of MIN", () -> x.copy(0, 1, 1, 1, Integer.MIN_VALUE), Due.BEYOND);
    }

    private static void worths() {
        NightDitch x = new NightDitch();
        for (int i = 0; i < 4; i++) {
            x.farm(2, 1, 50 + i);
        }
        x.turns(03210);
        x.sheet(0, 64, 6);
        long[] numbers = {999, -1, 1000, 0, 5, 6};
        for (int i = 0; i < numbers.length; i++) {
            x.write(0, i, numbers[i]);
        }
        Due.is("worths(0)", x.worths(0), 2);
        int[] due = {999, 51, 52, 0};
        for (int f = 0; f < 4; f++) {
            Due.is("WORTH of " + f, x.of(f, 2), due[f]);
        }
        x.write(0, 1, (1L << 32) + 7);
        Due.is("worths(0) with one beyond an int", x.worths(0), 2);
        Due.is("WORTH of 1", x.of(1, 2), 51);
        x.sheet(1, 8, 2);
        x.write(1, 0, 100);
        x.write(1, 1, 200);
        Due.is("worths(1)", x.worths(1), 1);
        Due.is("WORTH of 0", x.of(0, 2), 100);
        x.sheet(1, 8, 0);
        Due.is("worths(1) of none", x.worths(1), 0);
        Due.refuses(x, "worths(-1)", () -> x.worths(-1), Due.BEYOND);
        Due.refuses(x, "worths(4)", () -> x.worths(4), Due.BEYOND);
        Due.refuses(x, "worths(2)", () -> x.worths(2), Due.MISSING);
    }

    private static void read() {
        NightDitch x = new NightDitch();
        x.sheet(0, 64, 0);
        x.sheet(1, 8, 3);
        Due.is("read(0) of none", x.read(0), 0);
        Due.is("read(1) without meets", x.read(1), 1);
        x.farm(1, 1, 10);
        Due.is("read(1) of one farm", x.read(1), 1);
        x.farm(1, 1, 10);
        Due.is("read(1): a third stands for no meet", x.read(1), 3);
        x.farm(1, 1, 10);
        Due.is("read(1): all are right", x.read(1), 0);
        x.farm(1, 1, 10);
        Due.is("read(1): as many as there are", x.read(1), 0);
        x.farm(2, 1, 10);
        x.swap(1, 4);
        Due.is("read(1): by turns", x.read(1), 1);
        x.sheet(2, 64, 4);
        x.write(2, 0, 1000000);
        Due.is("read(2)", x.read(2), 0);
        x.write(2, 3, 1);
        Due.is("read(2): the last is wrong", x.read(2), 4);
        x.write(2, 1, -1);
        Due.is("read(2): the second is wrong", x.read(2), 2);
        x.write(2, 0, 1000000 + (1L << 32));
        Due.is("read(2): beyond an int", x.read(2), 1);
        Due.refuses(x, "read(-1)", () -> x.read(-1), Due.BEYOND);
        Due.refuses(x, "read(4)", () -> x.read(4), Due.BEYOND);
        Due.refuses(x, "read(3)", () -> x.read(3), Due.MISSING);
    }
}
