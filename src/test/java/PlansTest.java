/** Promises 26 to 30: plan, ends, book, looked, judge. */
public final class PlansTest {
    public static void main(String[] args) {
        plan();
        ends();
        book();
        judge();
        Due.end("PlansTest");
    }

    private static void plan() {
        MilestoneMaids x = new MilestoneMaids();
        Due.is("plan(1, 0), no maids", x.plan(1, 0), -1);
        Due.is("plan(3, 0), no pilgrims", x.plan(3, 0), -1);
        Due.is("plan(0, -9)", x.plan(0, -9), 1);
        x.maid(0, 0);
        x.maid(0, 0);
        x.pilgrim(0);
        Due.is("plan(1, 1)", x.plan(1, 1), 2);
        Due.is("plan(2, 1)", x.plan(2, 1), 3);
        Due.is("plan(1, 2)", x.plan(1, 2), -1);
        Due.is("plan(2, 2)", x.plan(2, 2), -1);
        Due.is("plan(2, -1)", x.plan(2, -1), -1);
        Due.is("plan(3, 1)", x.plan(3, 1), -1);
        Due.is("plan(3, -1)", x.plan(3, -1), -1);
        Due.is("plan(4, 0)", x.plan(4, 0), -1);
        Due.is("plan(-2, 0)", x.plan(-2, 0), -1);
        Due.is("plan(3, 0)", x.plan(3, 0), 4);
        for (int i = 5; i <= 10; i++) Due.is("plan " + i, x.plan(0, 0), i);
        Due.is("an eleventh", x.plan(0, 0), -4);
        Due.is("an eleventh that is none", x.plan(4, 0), -1);
        Due.is("count(4)", x.count(4), 10);
        Due.is("plan(-1, 77)", x.plan(-1, 77), 0);
        Due.is("count(4), empty", x.count(4), 0);
        Due.is("plan(0, 0)", x.plan(0, 0), 1);
    }

    private static void ends() {
        MilestoneMaids x = new MilestoneMaids();
        x.maid(1, 0);
        x.maid(1, 1);
        x.pilgrim(0);
        x.pilgrim(12);
        Due.way(x, "many 3");
        Due.is("ends(0), no plan", x.ends(0), 0);
        x.plan(0, 0);
        Due.is("ends(1): the second turns back", x.ends(1), 1);
        x.plan(0, 0);
        Due.is("ends(0): the first is in", x.ends(0), 1);
        x.plan(3, 1);
        Due.is("ends(1): not back any more", x.ends(1), 0);
        x.plan(0, 0);
        Due.is("ends(1): back again", x.ends(1), 1);
        x.plan(1, 0);
        x.plan(3, 1);
        x.plan(0, 0);
        Due.is("ends(1): its three marks are as they came, and too many", x.ends(1), 1);
        x.plan(-1, 0);
        x.plan(1, 0);
        x.plan(0, 0);
        Due.is("ends(1): a lamp is out", x.ends(1), 0);
        x.plan(1, 1);
        x.plan(0, 0);
        Due.is("ends(0): both lamps are out", x.ends(0), 2);
        x.plan(-1, 0);
        x.plan(1, 0);
        x.plan(2, 0);
        x.plan(0, 0);
        Due.is("ends(1): the lamp is out no more", x.ends(1), 1);
        Due.is("ends(2)", x.ends(2), -1);
        Due.is("ends(-1)", x.ends(-1), -1);
        Due.is("asking changes nothing", x.told(0) + x.told(2) + x.told(4) + x.at(0, 0), 0);
    }

    private static void book() {
        MilestoneMaids x = new MilestoneMaids();
        Due.is("looked(), empty", x.looked(), -5);
        Due.is("book(0, 256), no pilgrims", x.book(0, 256), -1);
        x.pilgrim(7);
        x.pilgrim(9);
        Due.is("book(2, 256)", x.book(2, 256), -1);
        Due.is("book(-2, 0)", x.book(-2, 0), -1);
        Due.is("book(1, 256)", x.book(1, 256), -2);
        Due.is("book(1, -1)", x.book(1, -1), -2);
        Due.is("book(1, 9)", x.book(1, 9), 1);
        Due.is("book(0, 7)", x.book(0, 7), 2);
        Due.is("looked(): all as told", x.looked(), -5);
        Due.is("book(0, 8)", x.book(0, 8), 3);
        Due.is("looked(): the third", x.looked(), 2);
        x.mark(0, 8);
        Due.is("looked(): the second now", x.looked(), 1);
        x.mark(1, 0);
        Due.is("looked(): the first now", x.looked(), 0);
        for (int i = 4; i <= 8; i++) Due.is("book " + i, x.book(1, i), i);
        Due.is("a ninth", x.book(1, 0), -4);
        Due.is("a ninth that is bad", x.book(1, 256), -2);
        Due.is("count(5)", x.count(5), 8);
        Due.is("book(-1, 999)", x.book(-1, 999), 0);
        Due.is("count(5), empty", x.count(5), 0);
        Due.is("looked(), empty again", x.looked(), -5);
    }

    private static void judge() {
        MilestoneMaids x = new MilestoneMaids();
        x.tape(0, 1, 5);
        x.tape(1, 0, 5);
        x.tape(2, 2, 5);
        x.tape(3, 3, 5);
        x.tape(4, 4, 5);
        Due.is("no pilgrims", x.judge(0, 2), -5);
        Due.is("no pilgrims, below 0", x.judge(0, -1), -5);
        Due.is("no pilgrims, nothing there", x.judge(5, 0), -5);
        Due.is("no pilgrims, bytes", x.judge(1, 0), -12);
        x.pilgrim(0);
        x.pilgrim(255);
        x.pilgrim(3);
        x.item(0, 2, 255);
        x.item(0, 3, 3);
        for (int tape = 1; tape < 5; tape++) Due.is("no shorts: " + tape, x.judge(tape, -1), -12);
        Due.is("as they are", x.judge(0, 1), -5);
        Due.is("the second is otherwise", x.judge(0, 0), 1);
        Due.is("the first is otherwise", x.judge(0, 2), 0);
        Due.is("the first is otherwise, ahead of the end", x.judge(0, 3), 0);
        Due.is("one looked at", x.judge(0, 4), 101);
        Due.is("none looked at", x.judge(0, 5), 100);
        Due.is("far beyond", x.judge(0, Integer.MAX_VALUE), 100);
        Due.is("below 0", x.judge(0, -1), 100);
        Due.is("far below 0", x.judge(0, Integer.MIN_VALUE), 100);
        Due.is("nothing there", x.judge(5, 0), 100);
        Due.is("judge(6, 0)", x.judge(6, 0), -1);
        Due.is("judge(-1, 0)", x.judge(-1, 0), -1);
        x.item(0, 2, -1);
        Due.is("shorts below 0", x.judge(0, 1), 1);
        x.item(0, 2, 255);
        x.tape(1, 1, 2);
        x.item(1, 1, 255);
        Due.is("two looked at", x.judge(1, 0), 102);
    }
}
