/** Promises 37 to 40: tape, item, read, shift. */
public final class TapesTest {
    private static final long NO = MilestoneMaids.NO;

    public static void main(String[] args) {
        tape();
        items();
        shift();
        shiftRefused();
        Due.end("TapesTest");
    }

    private static void tape() {
        MilestoneMaids x = new MilestoneMaids();
        for (int tape = 0; tape < 6; tape++) {
            Due.is("holds nothing: read(" + tape + ", 0)", x.read(tape, 0), NO);
            Due.is("holds nothing: item(" + tape + ", 0, 0)", x.item(tape, 0, 0), -11);
        }
        Due.is("tape(-1, 5, -1)", x.tape(-1, 5, -1), -1);
        Due.is("tape(6, 5, -1)", x.tape(6, 5, -1), -1);
        Due.is("tape(0, 5, -1)", x.tape(0, 5, -1), -2);
        Due.is("tape(0, -2, -1)", x.tape(0, -2, -1), -2);
        Due.is("tape(0, 0, 61)", x.tape(0, 0, 61), -2);
        Due.is("tape(0, 0, -1)", x.tape(0, 0, -1), -14);
        Due.is("holds nothing still", x.item(0, 0, 0), -11);
        Due.is("tape(0, 0, 60)", x.tape(0, 0, 60), 1);
        Due.is("item(0, 59, 5)", x.item(0, 59, 5), 1);
        Due.is("read(0, 59)", x.read(0, 59), 5);
        x.item(0, 0, 6);
        Due.is("tape(0, 0, 60) again", x.tape(0, 0, 60), 1);
        Due.is("all 0", x.read(0, 59), 0);
        Due.is("all 0 from the first on", x.read(0, 0), 0);
        x.item(0, 3, 5);
        Due.is("tape(0, 1, 0)", x.tape(0, 1, 0), 1);
        Due.is("a row of none", x.read(0, 0), NO);
        Due.is("a row of none has no place", x.item(0, 0, 1), -13);
        Due.is("tape(0, 3, 4)", x.tape(0, 3, 4), 1);
        Due.is("all 0 of another sort", x.read(0, 3), 0);
        Due.is("tape(0, -1, 99)", x.tape(0, -1, 99), 1);
        Due.is("nothing there", x.read(0, 3), NO);
        Due.is("nothing there at all", x.read(0, 0), NO);
        Due.is("nothing there", x.item(0, 3, 1), -11);
        Due.is("tape(0, -1, -99)", x.tape(0, -1, -99), 1);
    }

    private static void items() {
        MilestoneMaids x = new MilestoneMaids();
        for (int sort = 0; sort < 5; sort++) x.tape(sort, sort, 3);
        long[] vs = {0, 1, -1, 127, 128, 255, 256, 32767, 32768, 65536, 2147483647L, 2147483648L, 4294967296L,
            Long.MAX_VALUE, Long.MIN_VALUE};
        for (long v : vs) {
            long[] due = {(byte) v, (short) v, (int) v, v, v != 0 ? 1 : 0};
            for (int sort = 0; sort < 5; sort++) {
                Due.is("item(" + sort + ", 2, " + v + ")", x.item(sort, 2, v), 1);
                Due.is("read(" + sort + ", 2) of " + v, x.read(sort, 2), due[sort]);
                Due.is("the one ahead of it", x.read(sort, 1), 0);
            }
        }
        Due.is("item(6, 9, 0)", x.item(6, 9, 0), -1);
        Due.is("item(-1, 9, 0)", x.item(-1, 9, 0), -1);
        Due.is("item(5, 9, 0)", x.item(5, 9, 0), -11);
        Due.is("item(0, 3, 0)", x.item(0, 3, 0), -13);
        Due.is("item(0, -1, 0)", x.item(0, -1, 0), -13);
        Due.is("read(6, 0)", x.read(6, 0), NO);
        Due.is("read(-1, 0)", x.read(-1, 0), NO);
        Due.is("read(5, 0)", x.read(5, 0), NO);
        Due.is("read(0, 3)", x.read(0, 3), NO);
        Due.is("read(0, -1)", x.read(0, -1), NO);
    }

    private static void row(MilestoneMaids x, String call, int tape, long... due) {
        for (int i = 0; i < due.length; i++) Due.is(call + ": item " + i, x.read(tape, i), due[i]);
        Due.is(call + ": the end", x.read(tape, due.length), NO);
    }

    private static void shift() {
        MilestoneMaids x = new MilestoneMaids();
        x.tape(0, 2, 5);
        x.tape(1, 2, 3);
        for (int i = 0; i < 5; i++) x.item(0, i, i + 1);
        Due.is("shift(0, 1, 1, 0, 2)", x.shift(0, 1, 1, 0, 2), 2);
        row(x, "to another", 1, 2, 3, 0);
        Due.is("shift(0, 0, 0, 1, 4)", x.shift(0, 0, 0, 1, 4), 4);
        row(x, "as they were before, onward", 0, 1, 1, 2, 3, 4);
        Due.is("shift(0, 1, 0, 0, 4)", x.shift(0, 1, 0, 0, 4), 4);
        row(x, "as they were before, back", 0, 1, 2, 3, 4, 4);
        Due.is("shift(0, 5, 1, 3, 0)", x.shift(0, 5, 1, 3, 0), 0);
        Due.is("shift(1, 0, 0, 2, 3)", x.shift(1, 0, 0, 2, 3), 3);
        row(x, "to the end", 0, 1, 2, 2, 3, 0);
        x.tape(2, 4, 2);
        x.tape(3, 4, 2);
        x.item(2, 1, 1);
        Due.is("booleans", x.shift(2, 0, 3, 0, 2), 2);
        row(x, "booleans", 3, 0, 1);
    }

    private static void shiftRefused() {
        MilestoneMaids x = new MilestoneMaids();
        for (int sort = 0; sort < 5; sort++) x.tape(sort, sort, 4);
        Due.is("shift(6, 0, 0, 0, 1)", x.shift(6, 0, 0, 0, 1), -1);
        Due.is("shift(-1, 0, 5, 0, 1)", x.shift(-1, 0, 5, 0, 1), -1);
        Due.is("shift(5, 0, 6, 0, 1)", x.shift(5, 0, 6, 0, 1), -1);
        Due.is("shift(0, 0, -1, 0, 1)", x.shift(0, 0, -1, 0, 1), -1);
        Due.is("shift(5, -1, 0, 0, 1)", x.shift(5, -1, 0, 0, 1), -11);
        Due.is("shift(0, -1, 5, 0, 1)", x.shift(0, -1, 5, 0, 1), -11);
        Due.is("shift(5, 0, 5, 0, 0)", x.shift(5, 0, 5, 0, 0), -11);
        for (int a = 0; a < 5; a++) {
            for (int b = 0; b < 5; b++) {
                Due.is("shift(" + a + ", 0, " + b + ", 0, 4)", x.shift(a, 0, b, 0, 4), a == b ? 4 : -12);
                Due.is("shift(" + a + ", 0, " + b + ", 0, -1)", x.shift(a, 0, b, 0, -1), a == b ? -13 : -12);
            }
        }
        int most = Integer.MAX_VALUE;
        int least = Integer.MIN_VALUE;
        int[][] beside = {{-1, 0, 1}, {0, -1, 1}, {0, 0, -1}, {0, 0, 5}, {1, 0, 4}, {0, 1, 4}, {5, 0, 0}, {0, 5, 0},
            {most, 0, 1}, {0, most, 1}, {0, 0, most}, {1, 1, most}, {most, most, most}, {least, 0, 1}, {0, least, 1},
            {0, 0, least}, {-1, 0, 0}, {0, -1, 0}};
        for (int[] b : beside) {
            Due.is("shift(2, " + b[0] + ", 2, " + b[1] + ", " + b[2] + ")", x.shift(2, b[0], 2, b[1], b[2]), -13);
        }
    }
}
