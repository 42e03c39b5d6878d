/** Promises 14 and 15: pass, on. */
public final class DaysTest {
    public static void main(String[] args) {
        aDay();
        lastDay();
        on();
        beyond();
        Due.end("DaysTest");
    }

    private static void aDay() {
        MilestoneMaids x = new MilestoneMaids();
        x.maid(1, 0);
        x.maid(6, 0);
        x.maid(0, 1);
        x.row(1, 1, 6);
        x.row(1, 2, 1);
        x.pilgrim(8);
        x.pilgrim(0);
        Due.is("pass(0)", x.pass(0), 0);
        Due.is("nobody went", x.at(0, 1), 0);
        Due.is("pass(1)", x.pass(1), 1);
        Due.is("set", x.at(0, 0), 9);
        Due.is("one place on", x.at(0, 1), 1);
        Due.is("start", x.start(1), 1);
        Due.is("pass(1)", x.pass(1), 2);
        Due.is("wiped and the row of day 1", x.at(0, 0), 14);
        Due.is("set again", x.at(1, 0), 1);
        Due.is("pass(1)", x.pass(1), 3);
        Due.is("turned the other way", x.at(0, 0), 12);
        Due.is("wiped and the row of day 2", x.at(1, 0), 1);
        Due.is("in", x.told(3), 1);
        Due.is("pass(60)", x.pass(60), 63);
        Due.is("stays in", x.at(0, 1), 3);
        Due.is("marks of one who is in", x.at(0, 0), 12);
        Due.is("pass(61)", x.pass(61), -2);
        Due.is("pass(-1)", x.pass(-1), -2);
        Due.is("DAY", x.told(0), 63);
        // Whoever has too many marks turns back where it met the maid, with the marks as she passed them on.
        Due.way(x, "many 2");
        x.pilgrim(16);
        Due.is("one mark is not too many", x.on(0, 0), 0);
        x.pass(1);
        Due.is("back with two marks", x.at(2, 2), 1);
        Due.is("the marks are as she passed them on", x.at(2, 0), 17);
        Due.is("the place stays", x.at(2, 1), 0);
        x.mark(2, 0);
        x.pass(3);
        Due.is("one who is back stays", x.at(2, 0), 0);
        Due.is("at its place", x.at(2, 1), 0);
        Due.is("those who are in do not turn back", x.told(4), 1);
    }

    private static void lastDay() {
        MilestoneMaids x = new MilestoneMaids();
        for (int i = 1; i <= 166; i++) x.pass(60);
        Due.is("DAY", x.told(0), 9960);
        Due.is("pass(40)", x.pass(40), -3);
        Due.is("pass(61)", x.pass(61), -2);
        Due.is("DAY still", x.told(0), 9960);
        Due.is("pass(39)", x.pass(39), 9999);
        Due.is("pass(0)", x.pass(0), 9999);
        Due.is("pass(1)", x.pass(1), -3);
    }

    private static void on() {
        MilestoneMaids x = new MilestoneMaids();
        x.maid(1, 0);
        x.maid(1, 1);
        x.pilgrim(0);
        x.pilgrim(4);
        Due.way(x, "many 3");
        Due.is("on(0, 10)", x.on(0, 10), 0);
        Due.is("on(1, 10)", x.on(1, 10), 1);
        Due.is("on(2, 10)", x.on(2, 10), 3);
        Due.is("on(60, 10)", x.on(60, 10), 3);
        Due.is("on(1, 11)", x.on(1, 11), 5);
        Due.is("on(2, 11)", x.on(2, 11), 7);
        Due.is("on(0, 20)", x.on(0, 20), 0);
        Due.is("on(1, 20)", x.on(1, 20), 1);
        Due.is("on(5, 20)", x.on(5, 20), 2);
        Due.is("on(5, 21)", x.on(5, 21), 1);
        Due.is("on(1, 0)", x.on(1, 0), 0);
        Due.is("on(2, 0)", x.on(2, 0), 1);
        Due.is("asking changes nothing", x.told(0) + x.at(0, 0) + x.at(0, 1) + x.told(4), 0);
        Due.is("on(0, 12)", x.on(0, 12), -1);
        Due.is("on(61, 22)", x.on(61, 22), -1);
        Due.is("on(0, 1)", x.on(0, 1), -1);
        Due.is("on(0, -1)", x.on(0, -1), -1);
        Due.is("on(0, 9)", x.on(0, 9), -1);
        Due.is("on(0, 19)", x.on(0, 19), -1);
        Due.is("on(0, 30)", x.on(0, 30), -1);
        Due.is("on(-1, 0)", x.on(-1, 0), -2);
        Due.is("on(61, 10)", x.on(61, 10), -2);
        Due.is("on(0, least)", x.on(0, Integer.MIN_VALUE), -1);
    }

    private static void beyond() {
        MilestoneMaids x = new MilestoneMaids();
        x.maid(6, 0);
        x.maid(6, 0);
        x.row(0, 3, 1);
        x.row(1, 0, 2);
        x.pilgrim(0);
        for (int i = 1; i <= 166; i++) x.pass(60);
        x.pass(39);
        x.start(0);
        x.mark(0, 0);
        // DAY 9999 is 3 modulo 4, DAY 10000 is 0.
        Due.is("comes beyond the last day", x.at(0, 3), 2);
        Due.is("on beyond the last day", x.on(2, 10), 2);
        x.see(0, 1);
        Due.is("when beyond the last day", x.when(0, 0), 5);
        x.plan(0, 0);
        x.plan(0, 0);
        Due.is("ends beyond the last day", x.ends(0), 1);
    }
}
