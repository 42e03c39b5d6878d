/** Promises 31, 32 and 36: image, undo, count. */
public final class ImageTest {
    public static void main(String[] args) {
        allThatIsKept();
        everyOne();
        allThatIsNot();
        count();
        Due.end("ImageTest");
    }

    private static void allThatIsKept() {
        MilestoneMaids x = new MilestoneMaids();
        Due.is("undo(), none", x.undo(), -3);
        Due.is("image(), nobody", x.image(), 0);
        x.maid(6, 1);
        Due.is("undo(), nobody", x.undo(), 0);
        Due.is("nobody", x.count(0), 0);
        x.maid(6, 5);
        x.maid(1, 3);
        x.pilgrim(6);
        x.pilgrim(0xF0);
        x.row(0, 2, 4);
        x.lamp(1, true);
        Due.is("way 0", Due.way(x, "many 4"), 0);
        x.pass(1);
        x.see(1, 2);
        x.plan(0, 0);
        x.plan(1, 0);
        x.book(0, 9);
        Due.is("image()", x.image(), 2);
        x.maid(4, 0);
        x.pilgrim(1);
        x.pilgrim(2);
        x.row(0, 2, 9);
        x.row(0, 3, 1);
        x.lamp(0, true);
        x.lamp(1, false);
        Due.is("way 1", Due.way(x, "many 2"), 1);
        x.mark(0, 0);
        x.start(1);
        x.pass(7);
        x.see(-1, 0);
        x.plan(-1, 0);
        x.plan(3, 0);
        x.book(-1, 0);
        for (int again = 0; again < 2; again++) {
            Due.is("undo()", x.undo(), 2);
            Due.is("maids", x.count(0), 2);
            Due.is("pilgrims", x.count(1), 2);
            Due.is("the row of day 2", x.row(0, 2, 0), 4);
            Due.is("the row of day 3", x.row(0, 3, 5), 0);
            Due.is("lamps", x.told(2), 2);
            Due.is("marks", x.at(0, 0), 4);
            Due.is("place", x.at(0, 1), 1);
            Due.is("back", x.at(1, 2), 0);
            Due.is("place of the other", x.at(1, 1), 1);
            Due.is("day", x.told(0), 1);
            Due.is("seen", x.count(3), 1);
            Due.is("seen as it was: who", x.who(), 0);
            Due.is("the plan", x.count(4), 2);
            Due.is("the book", x.count(5), 1);
            Due.is("the book as it was", x.looked(), 0);
            Due.is("which way holds", x.told(1), 4);
            Due.is("ways", x.count(2), 2);
            x.pass(2);
            x.lamp(0, true);
        }
        Due.is("undo()", x.undo(), 2);
        Due.is("a maid comes new", x.maid(6, 0), 2);
        Due.is("her row is new", x.row(2, 0, 1), 0);
        Due.is("her lamp is not out", x.of(2, 2), 0);
        Due.is("a pilgrim comes new", x.pilgrim(5), 2);
        Due.is("its place", x.at(2, 1), 0);
        Due.is("it is not back", x.at(2, 2), 0);
        Due.is("the next way's number", Due.way(x, "many 8"), 2);
    }

    /** Six maids and five pilgrims with rows, marks and places of their own. */
    private static void everyOne() {
        MilestoneMaids x = new MilestoneMaids();
        for (int i = 0; i < 6; i++) {
            x.maid(6, 9 - i);
            for (int part = 0; part < 4; part++) x.row(i, part, (i + part) % 9 + 1);
        }
        for (int p = 0; p < 5; p++) x.pilgrim(40 * p + 3);
        for (int i = 0; i < 5; i++) x.see(40 + i, 90 + i);
        x.pass(2);
        x.start(4);
        int[] marks = new int[5];
        for (int p = 0; p < 5; p++) marks[p] = x.at(p, 0);
        x.image();
        for (int i = 0; i < 6; i++) {
            for (int part = 0; part < 4; part++) x.row(i, part, 0);
        }
        for (int p = 0; p < 5; p++) x.mark(p, 255);
        x.pass(9);
        x.undo();
        for (int i = 0; i < 6; i++) {
            Due.is("v of " + i, x.of(i, 1), 9 - i);
            for (int part = 0; part < 4; part++) Due.is("row of " + i, x.row(i, part, 0), (i + part) % 9 + 1);
        }
        for (int p = 0; p < 5; p++) {
            Due.is("marks of " + p, x.at(p, 0), marks[p]);
            Due.is("place of " + p, x.at(p, 1), p == 4 ? 0 : 2);
        }
    }

    private static void allThatIsNot() {
        MilestoneMaids x = new MilestoneMaids();
        x.feed('m');
        x.tape(0, 2, 2);
        x.image();
        x.maid(0, 0);
        x.feed('a');
        x.item(0, 1, 77);
        x.act(0, 1, 0);
        Due.is("undo()", x.undo(), 0);
        Due.is("the text stays", x.count(6), 2);
        Due.is("tapes stay", x.read(0, 1), 77);
        Due.is("the trace stays", x.count(7), 2);
        Due.is("its bodies stay", x.trace(1), 10);
    }

    private static void count() {
        MilestoneMaids x = new MilestoneMaids();
        x.maid(0, 0);
        for (int i = 0; i < 2; i++) x.pilgrim(i);
        for (int i = 0; i < 3; i++) Due.way(x, "many " + i);
        for (int i = 0; i < 4; i++) x.see(i, i);
        for (int i = 0; i < 5; i++) x.plan(0, 0);
        for (int i = 0; i < 6; i++) x.book(0, 0);
        for (int i = 0; i < 7; i++) x.feed('y');
        x.act(0, 2, 0);
        for (int what = 0; what < 7; what++) Due.is("count(" + what + ")", x.count(what), what + 1);
        Due.is("count(7)", x.count(7), 3);
        Due.is("count(8)", x.count(8), -2);
        Due.is("count(-1)", x.count(-1), -2);
    }
}
