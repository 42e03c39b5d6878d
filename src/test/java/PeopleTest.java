/** Promises 1 to 10: a new object, maid, pilgrim, of, at, passes, mark, start, lamp, row. */
public final class PeopleTest {
    public static void main(String[] args) {
        newObject();
        maids();
        pilgrims();
        says();
        passesOn();
        walking();
        lamps();
        rows();
        Due.end("PeopleTest");
    }

    private static void newObject() {
        MilestoneMaids x = new MilestoneMaids();
        int[] counts = {0, 0, 0, 0, 0, 0, 0, 0};
        for (int what = 0; what < 8; what++) Due.is("new: count " + what, x.count(what), counts[what]);
        Due.is("new: IN", x.told(3), 0);
        Due.is("new: BACK", x.told(4), 0);
        Due.is("new: MANY", x.told(1), 9);
        Due.is("new: MOST", x.told(5), -5);
        Due.is("new: day", x.told(0), 0);
        Due.is("NONE", MilestoneMaids.NONE, -1);
        Due.is("BAD", MilestoneMaids.BAD, -2);
        Due.is("STATE", MilestoneMaids.STATE, -3);
        Due.is("FULL", MilestoneMaids.FULL, -4);
        Due.is("NO", MilestoneMaids.NO, -9223372036854775807L - 1);
    }

    private static void maids() {
        MilestoneMaids x = new MilestoneMaids();
        Due.is("kind -1", x.maid(-1, 10), -1);
        Due.is("kind 7", x.maid(7, -1), -1);
        Due.is("v -1", x.maid(0, -1), -2);
        Due.is("v 10", x.maid(6, 10), -2);
        for (int i = 0; i < 6; i++) Due.is("maid " + i, x.maid(6 - i, i == 5 ? 9 : i), i);
        Due.is("a seventh", x.maid(0, 0), -4);
        Due.is("a seventh of no kind", x.maid(7, 0), -1);
        Due.is("a seventh with no number", x.maid(0, 10), -2);
        Due.is("of(0, 0)", x.of(0, 0), 6);
        Due.is("of(5, 0)", x.of(5, 0), 1);
        Due.is("of(5, 1)", x.of(5, 1), 9);
        Due.is("of(5, 2)", x.of(5, 2), 0);
        Due.is("of(6, 0)", x.of(6, 0), -1);
        Due.is("of(-1, 0)", x.of(-1, 0), -1);
        Due.is("of(0, 4)", x.of(0, 4), -1);
        Due.is("of(0, -1)", x.of(0, -1), -1);
        Due.is("count(0)", x.count(0), 6);
    }

    private static void pilgrims() {
        MilestoneMaids x = new MilestoneMaids();
        Due.is("pilgrim(-1)", x.pilgrim(-1), -2);
        Due.is("pilgrim(256)", x.pilgrim(256), -2);
        for (int i = 0; i < 5; i++) Due.is("pilgrim " + i, x.pilgrim(255 - i), i);
        Due.is("a sixth", x.pilgrim(0), -4);
        Due.is("a sixth with bad marks", x.pilgrim(256), -2);
        Due.is("at(4, 0)", x.at(4, 0), 251);
        Due.is("at(4, 1)", x.at(4, 1), 0);
        Due.is("at(4, 2)", x.at(4, 2), 0);
        Due.is("at(4, 3), no maids", x.at(4, 3), 251);
        Due.is("no maids: all are in", x.told(3), 5);
        Due.is("at(5, 0)", x.at(5, 0), -1);
        Due.is("at(-1, 0)", x.at(-1, 0), -1);
        Due.is("at(0, 4)", x.at(0, 4), -1);
        Due.is("at(0, -1)", x.at(0, -1), -1);
        Due.is("mark(0, 7)", x.mark(0, 7), 255);
        Due.is("mark(0, 8)", x.mark(0, 8), 7);
        Due.is("mark(0, 256)", x.mark(0, 256), -2);
        Due.is("mark(0, -1)", x.mark(0, -1), -2);
        Due.is("mark(5, 256)", x.mark(5, 256), -1);
        Due.is("the marks stay", x.at(0, 0), 8);
        Due.is("count(1)", x.count(1), 5);
    }

    private static void says() {
        // Kind, v, marks, what she says; 8 and 9 are marks 0 and 1.
        int[][] rows = {
            {0, 2, 0, 4}, {0, 2, 4, 0}, {0, 9, 0, 2}, {0, 8, 255, 254}, {0, 7, 0, 128},
            {1, 3, 0, 8}, {1, 3, 8, 8}, {1, 9, 4, 6},
            {2, 5, 1, 2}, {2, 5, 128, 1}, {2, 0, 255, 255}, {2, 7, 0xA5, 0x4B},
            {3, 4, 0, 0}, {3, 4, 1, 0}, {3, 4, 0xA8, 0xA0}, {3, 4, 128, 0},
            {4, 0, 0, 3}, {4, 6, 0, 0xC0}, {4, 7, 0, 0x81}, {4, 8, 0, 3}, {4, 1, 0xFF, 0xFF},
            {5, 0, 0xA5, 0xA5}, {5, 1, 0xA5, 0x4B}, {5, 4, 0x1F, 0xF1}, {5, 8, 7, 7}, {5, 9, 0x80, 1}, {5, 7, 1, 0x80},
            {6, 3, 0, 0}, {6, 3, 6, 4}};
        for (int[] r : rows) {
            MilestoneMaids x = new MilestoneMaids();
            x.maid(r[0], r[1]);
            Due.is("kind " + r[0] + ", v " + r[1] + " to " + r[2], x.passes(0, 0, r[2]), r[3]);
            Due.is("passes on: kind " + r[0] + ", v " + r[1] + " to " + r[2], x.passes(0, 1, r[2]), r[3]);
        }
        // How many of 0 .. 255 each passes on otherwise.
        int[] otherwise = {256, 128, 254, 255, 192, 240, 255};
        for (int kind = 0; kind < 7; kind++) {
            MilestoneMaids x = new MilestoneMaids();
            x.maid(kind, 4);
            Due.is("otherwise by kind " + kind, x.of(0, 3), otherwise[kind]);
        }
    }

    private static void passesOn() {
        MilestoneMaids x = new MilestoneMaids();
        x.maid(0, 0);
        x.maid(1, 1);
        Due.is("deaf", Due.way(x, "deaf 1 l=0&m>2"), 0);
        Due.is("says though deaf", x.passes(0, 0, 7), 6);
        Due.is("deaf to three marks", x.passes(0, 1, 7), 7);
        Due.is("heeded by two marks", x.passes(0, 1, 6), 7);
        Due.is("the other is heeded", x.passes(1, 1, 13), 15);
        Due.is("otherwise: of 256 those with two marks at most", x.of(0, 3), 1 + 8 + 28);
        Due.is("passes(2, 0, 0)", x.passes(2, 0, 0), -1);
        Due.is("passes(-1, 0, 0)", x.passes(-1, 0, 0), -1);
        Due.is("passes(0, 2, 256)", x.passes(0, 2, 256), -1);
        Due.is("passes(0, -1, 0)", x.passes(0, -1, 0), -1);
        Due.is("passes(0, 1, 256)", x.passes(0, 1, 256), -2);
        Due.is("passes(0, 0, -1)", x.passes(0, 0, -1), -2);
    }

    private static void walking() {
        MilestoneMaids x = new MilestoneMaids();
        x.maid(1, 0);
        x.maid(1, 1);
        x.maid(1, 2);
        x.pilgrim(0);
        x.pilgrim(0x30);
        Due.way(x, "many 4");
        Due.is("comes in with three marks", x.at(0, 3), 7);
        Due.is("turns back at the second", x.at(1, 3), -5);
        Due.is("asked: nothing has changed", x.at(0, 0) + x.at(0, 1) + x.told(0), 0);
        x.pass(2);
        Due.is("marks on day 2", x.at(1, 0), 0x33);
        Due.is("place of one who is back", x.at(1, 1), 1);
        Due.is("back", x.at(1, 2), 1);
        Due.is("comes: back", x.at(1, 3), -5);
        Due.is("place on day 2", x.at(0, 1), 2);
        Due.is("comes from place 2", x.at(0, 3), 7);
        Due.is("mark of one who is back", x.mark(1, 0), 0x33);
        Due.is("is back still", x.at(1, 2), 1);
        Due.is("start(1)", x.start(1), 1);
        Due.is("not back any more", x.at(1, 2), 0);
        Due.is("at the first again", x.at(1, 1), 0);
        Due.is("marks stay", x.at(1, 0), 0);
        Due.is("start(0)", x.start(0), 2);
        Due.is("start(2)", x.start(2), -1);
        Due.is("start(-1)", x.start(-1), -1);
        x.pass(5);
        Due.is("in", x.at(0, 1), 3);
        Due.is("comes: in", x.at(0, 3), 7);
        x.maid(1, 6);
        Due.is("comes: in no more", x.at(0, 3), -5);
        x.lamp(3, true);
        Due.is("comes past a lamp that is out", x.at(0, 3), 7);
    }

    private static void lamps() {
        MilestoneMaids x = new MilestoneMaids();
        x.maid(2, 0);
        x.maid(2, 0);
        Due.is("lamp(1, true)", x.lamp(1, true), 0);
        Due.is("lamp(1, true) again", x.lamp(1, true), 1);
        Due.is("out", x.of(1, 2), 1);
        Due.is("the other's is not out", x.of(0, 2), 0);
        Due.is("bits", x.told(2), 2);
        Due.is("says with the lamp out", x.passes(1, 0, 1), 2);
        Due.is("passes on with the lamp out", x.passes(1, 1, 1), 1);
        Due.is("otherwise with the lamp out", x.of(1, 3), 0);
        Due.is("lamp(1, false)", x.lamp(1, false), 1);
        Due.is("lamp(1, false) again", x.lamp(1, false), 0);
        Due.is("not out", x.of(1, 2), 0);
        Due.is("lamp(2, true)", x.lamp(2, true), -1);
        Due.is("lamp(-1, true)", x.lamp(-1, true), -1);
    }

    private static void rows() {
        MilestoneMaids x = new MilestoneMaids();
        x.maid(3, 0);
        x.maid(6, 0);
        x.maid(6, 0);
        Due.is("row(1, 0, 9)", x.row(1, 0, 9), 0);
        Due.is("row(1, 3, 6)", x.row(1, 3, 6), 0);
        Due.is("row(1, 3, 5)", x.row(1, 3, 5), 6);
        Due.is("row(1, 4, 0)", x.row(1, 4, 10), -1);
        Due.is("row(1, -1, 0)", x.row(1, -1, 0), -1);
        Due.is("row(3, 0, 10)", x.row(3, 0, 10), -1);
        Due.is("row(-1, 0, 0)", x.row(-1, 0, 0), -1);
        Due.is("row(0, 0, 10)", x.row(0, 0, 10), -2);
        Due.is("row(1, 0, -1)", x.row(1, 0, -1), -2);
        Due.is("row(0, 0, 0)", x.row(0, 0, 0), -3);
        int[] due = {0x11, 0x18, 0x18, 0x1D};
        for (int day = 0; day < 9; day++) {
            Due.is("wipes, then the row, on day " + day, x.passes(1, 0, 0x1C), due[day % 4]);
            Due.is("the other's row is another", x.passes(2, 0, 0x1C), 0x18);
            x.pass(1);
        }
    }
}
