/** Promises 11 to 15, sentence by sentence: both sides of each bound, which refusal comes first, what it leaves. */
public final class WaysBoundsTest {
    public static void main(String[] args) {
        feed();
        way();
        fault();
        told();
        pass();
        on();
        Due.end("WaysBoundsTest");
    }

    private static void feed() {
        Rows.unchanged("BAD", Stages::few, "feed(-1) = -2", "feed(128) = -2", "feed(least) = -2", "feed(most) = -2");
        Rows.unchanged("FULL", Stages::full, "feed(0) = -4", "feed(127) = -4", "feed(109) = -4");
        Rows.unchanged("BAD ahead of FULL", Stages::full, "feed(-1) = -2", "feed(128) = -2");
        Rows.each("A sign (0 .. 127): how many it has", Stages::few, "feed(0) = 3", "feed(127) = 3");
        Rows.each("the first one", Stages::fresh, "feed(0) = 1", "feed(127) = 1");
        Rows.run("bytes, 100 at most", Stages.nearlyFull(), "count(6) = 99", "feed(97) = 100", "feed(97) = -4",
            "count(6) = 100", "way() = -79", "count(6) = 0", "feed(97) = 1");
    }

    private static void way() {
        Rows.unchanged("FULL: there are 6 (THE TEXT stays)", Stages::full, "way() = -4");
        Subject x = Stages.full();
        Rows.run("THE TEXT stays", x, "way() = -4", "count(6) = 100", "count(2) = 6", "told(1) = 6", "feed(97) = -4");
        Rows.run("the end of THE TEXT, if it ends too early: empty", new Subject(), "way() = -10", "count(2) = 0");
        Subject y = new Subject();
        for (int i = 0; i < 6; i++) Rows.run("its number", y.feeds("many " + (i + 3)), "way() = " + i, "told(1) = " + (i + 3));
        Rows.run("FULL, empty or not, a WAY or not", y, "way() = -4");
        Rows.run("FULL, empty or not, a WAY or not", y.feeds("many 1"), "way() = -4", "count(6) = 6", "told(1) = 8");
        Rows.run("FULL, empty or not, a WAY or not", y.feeds("x"), "way() = -4", "count(6) = 7", "told(1) = 8");
        Subject z = Stages.nearlyFull().does("way()").feeds("many 0");
        Rows.run("the sixth", z, "way() = 5", "told(1) = 0", "count(2) = 6", "way() = -4");
    }

    private static void fault() {
        Rows.run("-10 less the FAULT (the one that held holds)", Stages.few().feeds("x"), "count(6) = 3", "way() = -12",
            "told(1) = 5", "count(2) = 1", "count(6) = 0");
        Rows.run("THE TEXT is empty then, behind a fault, too", Stages.few(), "way() = -12", "way() = -10", "count(6) = 0");
        Rows.alike("a FAULT changes nothing but THE TEXT", Stages.few().does("way()"), Stages.fewWithoutText());
        Rows.run("the next one's number", Stages.few().does("way()").feeds("many 0"), "way() = 1", "told(1) = 0");
        Rows.run("without one there are no CLAUSES", new Subject().feeds("many").does("way()"), "told(1) = 9", "count(2) = 0");
    }

    private static void told() {
        Rows.unchanged("NONE", Stages::few, "told(-1) = -1", "told(6) = -1", "told(least) = -1", "told(most) = -1");
        Rows.unchanged("what 0 .. 5", Stages::few, "told(0) = 1", "told(1) = 5", "told(2) = 6", "told(3) = 0",
            "told(4) = 1", "told(5) = 0");
        Rows.unchanged("MOST (-5: there are none)", Stages::fresh, "told(5) = -5");
        Rows.unchanged("of several the first", () -> new Subject().does("maid(1, 0)", "maid(0, 3)", "maid(0, 1)"),
            "told(5) = 1");
        Rows.unchanged("of several who change nothing the first",
            () -> new Subject().does("maid(5, 0)", "maid(5, 8)"), "told(5) = 0");
        Rows.unchanged("without PILGRIMS none is IN", () -> new Subject().does("maid(1, 0)"), "told(3) = 0");
        Rows.unchanged("without MAIDS each is IN", () -> new Subject().does("pilgrim(1)", "pilgrim(2)"), "told(3) = 2");
    }

    private static void pass() {
        Rows.unchanged("BAD", Stages::few, "pass(-1) = -2", "pass(61) = -2", "pass(least) = -2", "pass(most) = -2");
        Rows.unchanged("0 DAYS", Stages::few, "pass(0) = 1");
        Rows.each("0 .. 60", Stages::few, "pass(1) = 2", "pass(60) = 61");
        Rows.unchanged("STATE: it would be above 9999", Stages::late, "pass(60) = -3");
        Rows.unchanged("BAD ahead of STATE", Stages::late, "pass(61) = -2", "pass(-1) = -2");
        Rows.each("not above 9999", Stages::late, "pass(59) = 9999", "pass(58) = 9998", "pass(0) = 9940");
        Rows.run("at 9999", Stages.late().does("pass(59)"), "pass(0) = 9999", "pass(1) = -3", "pass(60) = -3", "pass(61) = -2",
            "told(0) = 9999");
        Rows.run("DAY is 1 more, though nobody goes", new Subject(), "pass(1) = 1", "pass(60) = 61", "told(0) = 61");
    }

    private static void on() {
        Rows.unchanged("NONE: what", Stages::few, "on(0, -1) = -1", "on(0, 1) = -1", "on(0, 9) = -1", "on(0, 12) = -1",
            "on(0, 19) = -1", "on(0, 22) = -1", "on(0, 25) = -1", "on(0, least) = -1", "on(0, most) = -1");
        Rows.unchanged("NONE: p of none", Stages::fresh, "on(0, 10) = -1", "on(0, 20) = -1");
        Rows.unchanged("p 0 .. 4", Stages::full, "on(0, 14) = 1", "on(0, 24) = 2", "on(0, 15) = -1", "on(0, 25) = -1");
        Rows.unchanged("BAD: n", Stages::few, "on(-1, 0) = -2", "on(61, 0) = -2", "on(-1, 10) = -2", "on(61, 11) = -2",
            "on(61, 20) = -2", "on(least, 0) = -2", "on(most, 21) = -2");
        Rows.unchanged("NONE ahead of BAD", Stages::few, "on(-1, 12) = -1", "on(61, 22) = -1", "on(61, 1) = -1");
        Rows.unchanged("n DAYS (0 .. 60)", Stages::few, "on(0, 0) = 1", "on(60, 0) = 1", "on(0, 10) = 9", "on(60, 10) = 9",
            "on(0, 11) = 248", "on(0, 20) = 1", "on(1, 20) = 2", "on(2, 20) = 3", "on(3, 20) = 3", "on(60, 20) = 3",
            "on(60, 21) = 0");
        Rows.unchanged("DAYS beyond 9999, too", Stages::late, "on(60, 0) = 0", "on(60, 10) = 8", "on(60, 20) = 2");
        // On DAY 9999, which is 3 modulo 4, she wipes 6 to 4 and turns it to 13; DAY 10000 is 0 modulo 4.
        Rows.run("DAYS beyond 9999, too", Stages.late().does("pass(59)", "start(0)", "mark(0, 6)"), "on(1, 10) = 13",
            "on(2, 10) = 26", "on(1, 20) = 1", "on(2, 20) = 2", "on(60, 20) = 2", "at(0, 3) = 26", "told(0) = 9999");
    }
}
