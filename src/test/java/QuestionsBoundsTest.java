/** Promises 16 to 30, sentence by sentence: both sides of each bound, which refusal comes first, what it leaves. */
public final class QuestionsBoundsTest {
    public static void main(String[] args) {
        through();
        before();
        order();
        doused();
        see();
        canAndWhen();
        who();
        odds();
        mean();
        plan();
        ends();
        book();
        judge();
        Due.end("QuestionsBoundsTest");
    }

    private static void through() {
        Rows.unchanged("BAD", Stages::few, "through(-1) = -2", "through(256) = -2", "through(least) = -2", "through(most) = -2");
        Rows.unchanged("0 .. 255", Stages::few, "through(0) = 8", "through(255) = 255");
        Rows.unchanged("no MAIDS: as they come", Stages::fresh, "through(0) = 0", "through(255) = 255", "through(256) = -2");
    }

    private static void before() {
        Rows.unchanged("NONE: what", Stages::few, "before(0, -1) = -1", "before(0, 2) = -1", "before(0, least) = -1",
            "before(0, most) = -1");
        Rows.unchanged("BAD", Stages::few, "before(-1, 0) = -2", "before(256, 0) = -2", "before(-1, 1) = -2",
            "before(256, 1) = -2", "before(least, 0) = -2", "before(most, 1) = -2");
        Rows.unchanged("NONE ahead of BAD", Stages::few, "before(256, 2) = -1", "before(-1, -1) = -1");
        Rows.unchanged("how many; the least", Stages::few, "before(8, 0) = 2", "before(8, 1) = 0", "before(255, 0) = 2",
            "before(255, 1) = 247");
        Rows.unchanged("-5: none", Stages::few, "before(0, 0) = 0", "before(0, 1) = -5", "before(247, 1) = -5");
        Rows.unchanged("of 0 .. 255", Stages::fresh, "before(0, 0) = 1", "before(0, 1) = 0", "before(255, 0) = 1",
            "before(255, 1) = 255");
        Rows.unchanged("none below 0", () -> new Subject().does("maid(2, 0)"), "before(255, 0) = 1", "before(255, 1) = 255");
        Rows.unchanged("all of them", () -> new Subject().times(6, "maid(3, 0)"), "before(0, 0) = 247",
            "before(0, 1) = 0", "before(128, 0) = 7", "before(192, 0) = 1", "before(192, 1) = 255");
    }

    private static void order() {
        Rows.unchanged("NONE: k (-1 .. 5)", Stages::few, "order(0, 0, -2) = -1", "order(0, 0, 6) = -1",
            "order(0, 0, least) = -1", "order(0, 0, most) = -1");
        Rows.unchanged("BAD: a, b", Stages::few, "order(-1, 0, 0) = -2", "order(256, 0, 0) = -2", "order(0, -1, 0) = -2",
            "order(0, 256, 0) = -2", "order(256, 0, -1) = -2", "order(0, 256, 5) = -2");
        Rows.unchanged("NONE ahead of BAD", Stages::few, "order(256, 0, 6) = -1", "order(0, -1, -2) = -1");
        Rows.unchanged("BAD ahead of -5", Stages::fresh, "order(256, 0, 0) = -2", "order(0, 256, 5) = -2");
        Rows.unchanged("-5: there are fewer", Stages::few, "order(0, 8, 3) = -5", "order(0, 8, 4) = -5", "order(0, 8, 5) = -5");
        Rows.unchanged("the k-th", Stages::few, "order(0, 8, -1) = 0", "order(0, 8, 0) = 0", "order(0, 8, 1) = 1",
            "order(0, 8, 2) = 2", "order(255, 0, -1) = 8", "order(0, 255, -1) = 7");
        Rows.unchanged("no MAIDS", Stages::fresh, "order(0, 255, -1) = 8", "order(255, 255, -1) = 0", "order(0, 0, 0) = -5",
            "order(0, 0, 5) = -5");
        Rows.unchanged("six of them", () -> new Subject().times(6, "maid(5, 0)"), "order(7, 7, 0) = 0", "order(7, 7, 5) = 5",
            "order(7, 0, -1) = 3", "order(7, 0, 6) = -1");
        Rows.unchanged("of several the first as a row of numbers",
            () -> new Subject().does("maid(2, 0)", "maid(2, 0)", "maid(1, 0)"), "order(0, 1, -1) = 0", "order(0, 1, 0) = 0",
            "order(0, 1, 1) = 1", "order(0, 1, 2) = 2", "order(0, 2, 0) = 0", "order(0, 2, 1) = 2", "order(0, 2, 2) = 1",
            "order(0, 4, 0) = 2", "order(0, 4, 1) = 0", "order(0, 4, 2) = 1");
    }

    private static void doused() {
        Rows.unchanged("BAD", Stages::few, "doused(-1, 0) = -2", "doused(256, 0) = -2", "doused(0, -1) = -2",
            "doused(0, 256) = -2", "doused(least, 0) = -2", "doused(0, most) = -2");
        Rows.unchanged("-5: none", Stages::few, "doused(0, 1) = -5", "doused(255, 0) = -5");
        Rows.unchanged("none need be OUT", Stages::few, "doused(0, 8) = 0", "doused(255, 255) = 0");
        Rows.unchanged("no MAIDS", Stages::fresh, "doused(255, 255) = 0", "doused(0, 255) = -5");
        Rows.unchanged("with the fewest MAIDS, as many as all six",
            () -> new Subject().times(6, "maid(1, 0)"), "doused(0, 0) = 63", "doused(0, 1) = 0", "doused(0, 2) = -5");
        Rows.unchanged("of several the least as bits", () -> new Subject().times(6, "maid(2, 0)"), "doused(1, 32) = 1",
            "doused(1, 16) = 3", "doused(1, 1) = 63", "doused(1, 64) = 0");
        Rows.unchanged("were their LAMPS OUT, too", () -> new Subject().times(3, "maid(2, 0)").does("lamp(0, true)"),
            "doused(1, 4) = 0", "doused(1, 2) = 2", "doused(1, 1) = 6", "doused(1, 8) = -5");
    }

    private static void see() {
        Rows.unchanged("BAD: a, b", Stages::few, "see(-2, 0) = -2", "see(256, 0) = -2", "see(0, -1) = -2", "see(0, 256) = -2",
            "see(least, 0) = -2", "see(most, 0) = -2", "see(0, least) = -2", "see(0, most) = -2");
        Rows.unchanged("FULL: 5", Stages::full, "see(0, 0) = -4", "see(255, 255) = -4");
        Rows.unchanged("BAD ahead of FULL", Stages::full, "see(256, 0) = -2", "see(-2, 0) = -2", "see(0, 256) = -2",
            "see(0, -1) = -2");
        Rows.each("0 .. 255", Stages::fresh, "see(0, 255) = 1", "see(255, 0) = 1", "see(0, 0) = 1", "see(255, 255) = 1");
        Rows.run("5 rows at most", Stages.nearlyFull(), "see(0, 0) = 5", "see(0, 0) = -4", "count(3) = 5");
        Rows.each("a -1: none then, 0, whatever the other is", Stages::full, "see(-1, 0) = 0", "see(-1, -1) = 0",
            "see(-1, 256) = 0", "see(-1, least) = 0", "see(-1, most) = 0");
        Rows.run("none then", Stages.full(), "see(-1, 999) = 0", "count(3) = 0", "who() = 63", "see(1, 2) = 1", "count(3) = 1");
        Rows.unchanged("none already", Stages::fresh, "see(-1, 0) = 0");
    }

    private static void canAndWhen() {
        for (String call : new String[] {"can", "when"}) {
            Rows.unchanged("NONE", Stages::few, call + "(-1, 0) = -1", call + "(3, 0) = -1", call + "(least, 0) = -1",
                call + "(most, 0) = -1", call + "(0, -1) = -1", call + "(0, 2) = -1", call + "(0, least) = -1",
                call + "(0, most) = -1", call + "(3, 1) = -1");
            Rows.unchanged("no MAIDS", Stages::fresh, call + "(0, 0) = -1", call + "(0, 1) = -1");
            Rows.unchanged("-5: none", Stages::full, call + "(4, 0) = 0", call + "(4, 1) = -5");
        }
        Rows.unchanged("v (0 .. 9), nothing seen", Stages::kinds, "can(0, 0) = 10", "can(0, 1) = 0", "can(5, 0) = 10");
        Rows.unchanged("20 DAYS, nothing seen", Stages::kinds, "when(0, 0) = 20", "when(0, 1) = 0", "when(5, 0) = 20");
        Rows.run("v 9 is the last", Stages.kinds().feeds("deaf 1 v<9").does("way()", "see(1, 3)"), "can(0, 0) = 1",
            "can(0, 1) = 9", "see(2, 3) = 2", "can(0, 0) = 0", "can(0, 1) = -5");
        Rows.run("v 0 is the first", Stages.kinds().feeds("deaf 1 v>0").does("way()", "see(0, 1)"), "can(0, 0) = 1",
            "can(0, 1) = 0");
        when();
    }

    /** Heeded on every tenth DAY, and told so on every second of those: on one DAY in 20. */
    private static Subject onceInTwenty() {
        return new Subject().does("maid(6, 0)", "row(0, 3, 5)", "see(0, 5)").feeds("deaf 1 d<9").does("way()");
    }

    private static void when() {
        Rows.run("DAY 19 is the first, from 0 on", onceInTwenty(), "when(0, 0) = 1", "when(0, 1) = 19");
        Rows.run("0: this one", onceInTwenty().does("pass(19)"), "when(0, 0) = 1", "when(0, 1) = 0");
        Rows.run("19 again behind it", onceInTwenty().does("pass(20)"), "when(0, 0) = 1", "when(0, 1) = 19");
        Rows.run("on DAYS beyond 9999, too", Stages.late().does("pass(59)", "see(0, 9)", "row(0, 3, 0)", "row(0, 2, 9)"),
            "when(0, 0) = 5", "when(0, 1) = 3", "told(0) = 9999");
    }

    private static void who() {
        Rows.unchanged("WHO (bits)", Stages::fresh, "who() = 0");
        Rows.unchanged("nothing seen: all of them", Stages::kinds, "who() = 63");
        Rows.unchanged("none of them", () -> Stages.few().does("see(0, 1)"), "who() = 0");
        Rows.run("the sixth", Stages.kinds().does("row(5, 0, 9)", "see(0, 9)"), "who() = 32");
    }

    private static void odds() {
        Rows.unchanged("NO: a, b, part", Stages::few, "odds(-1, 0, 0) = NO", "odds(256, 0, 1) = NO", "odds(0, -1, 0) = NO",
            "odds(0, 256, 1) = NO", "odds(0, 0, -1) = NO", "odds(0, 0, 2) = NO", "odds(least, 0, 0) = NO", "odds(0, most, 0) = NO");
        Rows.unchanged("NO: no MAIDS", Stages::fresh, "odds(0, 0, 0) = NO", "odds(0, 0, 1) = NO");
        Rows.unchanged("0 .. 255", Stages::few, "odds(0, 8, 0) = 2", "odds(0, 8, 1) = 3", "odds(255, 255, 0) = 1",
            "odds(255, 255, 1) = 1");
        Rows.unchanged("never", Stages::few, "odds(0, 1, 0) = 0", "odds(0, 1, 1) = 1");
        Rows.unchanged("in lowest terms: three of six", Stages::kinds, "odds(255, 238, 0) = 1", "odds(255, 238, 1) = 2");
        Rows.unchanged("in lowest terms, of six", () -> new Subject().times(4, "maid(1, 0)").times(2, "maid(2, 0)"),
            "odds(0, 4, 0) = 2", "odds(0, 4, 1) = 3", "odds(0, 2, 0) = 1", "odds(0, 2, 1) = 3", "odds(0, 1, 1) = 1");
        Rows.unchanged("one MAID", () -> new Subject().does("maid(1, 0)"), "odds(0, 0, 0) = 1", "odds(0, 0, 1) = 1",
            "odds(0, 1, 0) = 0", "odds(0, 1, 1) = 1");
    }

    private static void mean() {
        Rows.unchanged("NO: part", Stages::few, "mean(-1) = NO", "mean(2) = NO", "mean(least) = NO", "mean(most) = NO");
        Rows.unchanged("NO: there are none", Stages::fresh, "mean(0) = NO", "mean(1) = NO");
        Rows.unchanged("in lowest terms", Stages::few, "mean(0) = 7", "mean(1) = 2");
        Rows.unchanged("no MARKS", () -> new Subject().does("pilgrim(0)", "pilgrim(0)"), "mean(0) = 0", "mean(1) = 1");
        Rows.unchanged("all MARKS", () -> new Subject().times(5, "pilgrim(255)"), "mean(0) = 8", "mean(1) = 1");
    }

    private static void plan() {
        Rows.unchanged("NONE: what (0 .. 3)", Stages::few, "plan(-2, 0) = -1", "plan(4, 0) = -1", "plan(least, 0) = -1",
            "plan(most, 0) = -1");
        Rows.unchanged("NONE: MAID (by 1, 2)", Stages::few, "plan(1, -1) = -1", "plan(1, 3) = -1", "plan(2, -1) = -1",
            "plan(2, 3) = -1", "plan(1, least) = -1", "plan(2, most) = -1");
        Rows.unchanged("NONE: PILGRIM (by 3)", Stages::few, "plan(3, -1) = -1", "plan(3, 2) = -1", "plan(3, least) = -1",
            "plan(3, most) = -1");
        Rows.unchanged("FULL: 10", Stages::full, "plan(0, 0) = -4", "plan(1, 0) = -4", "plan(2, 5) = -4", "plan(3, 4) = -4");
        Rows.unchanged("NONE ahead of FULL", Stages::full, "plan(4, 0) = -1", "plan(-2, 0) = -1", "plan(1, 6) = -1",
            "plan(2, -1) = -1", "plan(3, 5) = -1");
        Rows.each("by 0 n does not matter", Stages::few, "plan(0, -1) = 5", "plan(0, 9) = 5", "plan(0, least) = 5",
            "plan(0, most) = 5");
        Rows.each("MAID, PILGRIM", Stages::few, "plan(1, 0) = 5", "plan(1, 2) = 5", "plan(2, 0) = 5", "plan(2, 2) = 5",
            "plan(3, 0) = 5", "plan(3, 1) = 5");
        Rows.each("by 0 there need be none", Stages::fresh, "plan(0, 7) = 1", "plan(1, 0) = -1", "plan(2, 0) = -1",
            "plan(3, 0) = -1");
        Rows.run("10 rows at most", Stages.nearlyFull(), "plan(3, 3) = 10", "plan(3, 3) = -4", "count(4) = 10");
        Rows.each("what -1: it is empty then, 0, whatever the other is", Stages::full, "plan(-1, 0) = 0", "plan(-1, -1) = 0",
            "plan(-1, least) = 0", "plan(-1, most) = 0");
        Rows.run("it is empty then", Stages.full(), "plan(-1, 99) = 0", "count(4) = 0", "plan(0, 0) = 1", "count(4) = 1");
        Rows.unchanged("empty already", Stages::fresh, "plan(-1, 0) = 0");
    }

    private static void ends() {
        Rows.unchanged("NONE", Stages::few, "ends(-1) = -1", "ends(2) = -1", "ends(least) = -1", "ends(most) = -1");
        Rows.unchanged("no PLAN: as it is", () -> Stages.few().does("plan(-1, 0)"), "ends(0) = 0", "ends(1) = 1");
        Rows.unchanged("nobody", Stages::fresh, "ends(0) = 0", "ends(1) = 0");
        Rows.unchanged("how many are IN; how many are BACK", Stages::few, "ends(0) = 1", "ends(1) = 1");
        Rows.unchanged("the tenth row, too",
            () -> new Subject().times(6, "maid(2, 0)").does("pilgrim(1)").times(10, "plan(0, 0)"), "ends(0) = 1");
        // Six MAIDS are behind one by six DAYS, not by five; all else in the rows does nothing.
        Subject five = new Subject().times(6, "maid(2, 0)").does("pilgrim(1)").times(5, "plan(0, 0)").times(4, "plan(2, 0)");
        Rows.run("nine rows, five of them DAYS", five, "ends(0) = 0", "plan(0, 0) = 10", "ends(0) = 1");
        Subject one = new Subject().does("maid(1, 0)", "maid(1, 1)", "pilgrim(0)").feeds("many 2").does("way()");
        Rows.run("by 0 n does not matter: no LAMP, no PILGRIM", one, "plan(0, 1) = 1", "plan(0, 0) = 2", "ends(1) = 1",
            "plan(-1, 0) = 0", "plan(0, least) = 1", "plan(0, most) = 2", "ends(1) = 1", "ends(0) = 0");
        Rows.run("1 LAMP of MAID n is OUT", one, "plan(-1, 0) = 0", "plan(1, 1) = 1", "plan(0, 0) = 2", "plan(0, 0) = 3",
            "ends(0) = 1", "ends(1) = 0", "plan(-1, 0) = 0", "plan(1, 0) = 1", "plan(0, 0) = 2", "plan(0, 0) = 3", "ends(0) = 1");
        Rows.run("2 it is not: another's is", one, "plan(-1, 0) = 0", "lamp(1, true) = 0", "plan(2, 0) = 1", "plan(0, 0) = 2",
            "plan(0, 0) = 3", "ends(0) = 1", "plan(-1, 0) = 0", "plan(2, 1) = 1", "plan(0, 0) = 2", "plan(0, 0) = 3", "ends(1) = 1",
            "lamp(1, false) = 1");
        Rows.run("3 PILGRIM n is not BACK any more, by 1 and 2 it is still", one, "pass(2) = 2", "at(0, 2) = 1", "plan(-1, 0) = 0",
            "plan(1, 0) = 1", "ends(1) = 1", "plan(2, 0) = 2", "ends(1) = 1", "plan(3, 0) = 3", "ends(1) = 0", "ends(0) = 0",
            "plan(0, 0) = 4", "ends(1) = 1", "told(4) = 1", "told(2) = 0");
        Rows.run("DAYS beyond 9999, too", Stages.late().does("pass(59)", "start(0)", "plan(0, 0)"), "ends(0) = 0",
            "plan(0, 0) = 2", "ends(0) = 1", "told(0) = 9999");
    }

    private static void book() {
        Rows.unchanged("NONE", Stages::few, "book(-2, 0) = -1", "book(2, 0) = -1", "book(least, 0) = -1", "book(most, 0) = -1");
        Rows.unchanged("BAD: marks", Stages::few, "book(0, -1) = -2", "book(0, 256) = -2", "book(1, least) = -2",
            "book(1, most) = -2");
        Rows.unchanged("NONE ahead of BAD", Stages::few, "book(2, 256) = -1", "book(-2, -1) = -1");
        Rows.unchanged("FULL: 8", Stages::full, "book(0, 0) = -4", "book(4, 255) = -4");
        Rows.unchanged("NONE and BAD ahead of FULL", Stages::full, "book(5, 0) = -1", "book(-2, 0) = -1", "book(4, 256) = -2",
            "book(4, -1) = -2", "book(5, 256) = -1");
        Rows.each("0 .. 255", Stages::few, "book(0, 0) = 4", "book(1, 255) = 4");
        Rows.run("8 at most", Stages.nearlyFull(), "book(3, 255) = 8", "book(3, 255) = -4", "count(5) = 8");
        Rows.each("pilgrim -1: it is empty then, 0, whatever the other is", Stages::full, "book(-1, 0) = 0", "book(-1, -1) = 0",
            "book(-1, 256) = 0", "book(-1, least) = 0", "book(-1, most) = 0");
        Rows.run("it is empty then", Stages.full(), "looked() = 0", "book(-1, 256) = 0", "count(5) = 0", "looked() = -5",
            "book(0, 1) = 1", "looked() = 0");
        Rows.unchanged("empty already", Stages::fresh, "book(-1, 0) = 0", "looked() = -5");
        Rows.run("the first of these rows by which it is otherwise", Stages.nearlyFull().does("mark(3, 255)"), "looked() = -5",
            "book(3, 254) = 8", "looked() = 7", "mark(3, 254) = 255", "looked() = -5", "mark(0, 1) = 0", "looked() = 0");
    }

    private static void judge() {
        Rows.unchanged("NONE: tape", Stages::few, "judge(-1, 0) = -1", "judge(6, 0) = -1", "judge(least, 0) = -1",
            "judge(most, -1) = -1");
        Rows.unchanged("CAST: it is no row of shorts", Stages::few, "judge(0, 0) = -12", "judge(2, 0) = -12", "judge(3, 0) = -12",
            "judge(4, 0) = -12", "judge(0, -1) = -12", "judge(4, 60) = -12");
        Rows.unchanged("CAST, though of no length", () -> new Subject().does("pilgrim(0)", "tape(0, 0, 0)"), "judge(0, 0) = -12");
        Rows.unchanged("the first that is otherwise", Stages::few, "judge(1, 0) = 0", "judge(1, 1) = 1", "judge(1, 2) = 0",
            "judge(1, 3) = 0");
        Rows.unchanged("if the row ends ahead of that", Stages::few, "judge(1, 4) = 100", "judge(1, 5) = 100",
            "judge(1, most) = 100");
        Rows.run("100 and how many were looked at", Stages.few().does("item(1, 3, 9)"), "judge(1, 3) = 101", "judge(1, 4) = 100");
        Rows.unchanged("the place is below 0", Stages::few, "judge(1, -1) = 100", "judge(1, least) = 100");
        Rows.unchanged("the TAPE holds nothing", Stages::few, "judge(5, 0) = 100", "judge(5, -1) = 100");
        Rows.unchanged("a row of 0", () -> new Subject().does("pilgrim(0)", "tape(5, 1, 0)"), "judge(5, 0) = 100");
        Rows.unchanged("there are no PILGRIMS", () -> new Subject().does("tape(1, 1, 2)"), "judge(1, 0) = -5", "judge(1, 2) = -5",
            "judge(1, 9) = -5", "judge(1, -1) = -5", "judge(0, 0) = -5", "judge(5, -1) = -5");
        Rows.run("-5: none", Stages.few().does("item(1, 2, 248)"), "judge(1, 1) = -5");
        Subject whole = new Subject().times(5, "pilgrim(255)").does("tape(0, 1, 60)");
        for (int i = 55; i < 60; i++) whole.does("item(0, " + i + ", 255)");
        Rows.run("all five, to the row's very end", whole, "judge(0, 55) = -5", "judge(0, 56) = 104", "judge(0, 54) = 0",
            "judge(0, 59) = 101", "judge(0, 60) = 100", "item(0, 59, 254) = 1", "judge(0, 55) = 4", "item(0, 55, -1) = 1",
            "judge(0, 55) = 0");
    }
}
