/** Promises 1 to 10, sentence by sentence: both sides of each bound, which refusal comes first, what it leaves. */
public final class PeopleBoundsTest {
    public static void main(String[] args) {
        newObject();
        maid();
        pilgrim();
        of();
        at();
        passes();
        mark();
        start();
        lamp();
        row();
        Due.end("PeopleBoundsTest");
    }

    private static void newObject() {
        Rows.unchanged("No MAIDS, no PILGRIMS, no WAY", Stages::fresh, "count(0) = 0", "count(1) = 0", "count(2) = 0");
        Rows.unchanged("without one there are no CLAUSES: MANY 9", Stages::fresh, "told(1) = 9");
        Rows.unchanged("no image yet", Stages::fresh, "undo() = -3");
        Rows.unchanged("nothing told yet", Stages::fresh, "count(3) = 0", "count(4) = 0", "count(5) = 0",
            "count(6) = 0", "count(7) = 0", "told(0) = 0", "told(2) = 0", "told(3) = 0", "told(4) = 0");
    }

    private static void maid() {
        Rows.unchanged("NONE: kind", Stages::few, "maid(-1, 0) = -1", "maid(7, 0) = -1", "maid(least, 0) = -1",
            "maid(most, 0) = -1");
        Rows.unchanged("BAD: v", Stages::few, "maid(0, -1) = -2", "maid(0, 10) = -2", "maid(6, -1) = -2",
            "maid(6, 10) = -2", "maid(0, least) = -2", "maid(0, most) = -2");
        Rows.unchanged("NONE ahead of BAD", Stages::few, "maid(7, 10) = -1", "maid(-1, -1) = -1");
        Rows.unchanged("FULL: 6", Stages::full, "maid(0, 0) = -4", "maid(6, 9) = -4");
        Rows.unchanged("NONE and BAD ahead of FULL", Stages::full, "maid(7, 0) = -1", "maid(-1, 0) = -1",
            "maid(0, 10) = -2", "maid(0, -1) = -2", "maid(7, 10) = -1");
        Rows.each("KINDS: 0 .. 6, v (0 .. 9)", Stages::few, "maid(0, 0) = 3", "maid(6, 0) = 3", "maid(0, 9) = 3",
            "maid(6, 9) = 3");
        Rows.run("MAIDS 0 .. 5, as they come", Stages.nearlyFull(), "maid(3, 7) = 5", "maid(3, 7) = -4",
            "of(5, 0) = 3", "of(5, 1) = 7", "count(0) = 6");
    }

    private static void pilgrim() {
        Rows.unchanged("BAD: marks", Stages::few, "pilgrim(-1) = -2", "pilgrim(256) = -2", "pilgrim(least) = -2",
            "pilgrim(most) = -2");
        Rows.unchanged("FULL: 5", Stages::full, "pilgrim(0) = -4", "pilgrim(255) = -4");
        Rows.unchanged("BAD ahead of FULL", Stages::full, "pilgrim(-1) = -2", "pilgrim(256) = -2");
        Rows.each("0 .. 255", Stages::few, "pilgrim(0) = 2", "pilgrim(255) = 2");
        Rows.run("PILGRIMS 0 .. 4, as they come", Stages.nearlyFull(), "pilgrim(255) = 4", "pilgrim(0) = -4",
            "at(4, 0) = 255", "count(1) = 5");
        Rows.run("a PLACE (0 at first), BACK (not at first)", Stages.few(), "pilgrim(3) = 2", "at(2, 0) = 3",
            "at(2, 1) = 0", "at(2, 2) = 0");
    }

    private static void of() {
        Rows.unchanged("NONE: no such MAID", Stages::few, "of(-1, 0) = -1", "of(3, 0) = -1", "of(3, 3) = -1",
            "of(least, 0) = -1", "of(most, 0) = -1");
        Rows.unchanged("NONE: what 0 .. 3", Stages::few, "of(0, -1) = -1", "of(0, 4) = -1", "of(0, least) = -1",
            "of(0, most) = -1");
        Rows.unchanged("what 0 .. 3", Stages::few, "of(2, 0) = 2", "of(2, 1) = 0", "of(2, 2) = 1", "of(2, 3) = 0",
            "of(0, 0) = 1", "of(0, 1) = 3", "of(0, 2) = 0", "of(0, 3) = 128");
        Rows.unchanged("the first and the last of six", Stages::full, "of(0, 0) = 6", "of(5, 0) = 1", "of(6, 0) = -1");
        Rows.unchanged("no MAIDS", Stages::fresh, "of(0, 0) = -1");
    }

    private static void at() {
        Rows.unchanged("NONE: no such PILGRIM", Stages::few, "at(-1, 0) = -1", "at(2, 0) = -1", "at(2, 3) = -1",
            "at(least, 0) = -1", "at(most, 3) = -1");
        Rows.unchanged("NONE: what 0 .. 3", Stages::few, "at(0, -1) = -1", "at(0, 4) = -1", "at(0, least) = -1",
            "at(0, most) = -1");
        Rows.unchanged("what 0 .. 3", Stages::few, "at(0, 0) = 9", "at(0, 1) = 1", "at(0, 2) = 0", "at(0, 3) = 9",
            "at(1, 0) = 248", "at(1, 1) = 0", "at(1, 2) = 1");
        Rows.unchanged("COMES (-5: it is BACK)", Stages::few, "at(1, 3) = -5");
        Rows.unchanged("the last of five", Stages::full, "at(4, 0) = 1", "at(5, 0) = -1");
        Rows.unchanged("no PILGRIMS", Stages::fresh, "at(0, 0) = -1", "at(0, 3) = -1");
    }

    private static void passes() {
        Rows.unchanged("NONE: maid", Stages::few, "passes(-1, 0, 0) = -1", "passes(3, 0, 0) = -1",
            "passes(3, 1, 0) = -1", "passes(least, 0, 0) = -1", "passes(most, 0, 0) = -1");
        Rows.unchanged("NONE: what", Stages::few, "passes(0, -1, 0) = -1", "passes(0, 2, 0) = -1");
        Rows.unchanged("BAD", Stages::few, "passes(0, 0, -1) = -2", "passes(0, 1, -1) = -2", "passes(0, 0, 256) = -2",
            "passes(0, 1, 256) = -2", "passes(0, 0, least) = -2", "passes(0, 0, most) = -2");
        Rows.unchanged("NONE ahead of BAD", Stages::few, "passes(3, 0, 256) = -1", "passes(-1, 1, -1) = -1",
            "passes(0, 2, 256) = -1", "passes(0, -1, -1) = -1");
        Rows.unchanged("0 .. 255", Stages::few, "passes(0, 0, 0) = 8", "passes(0, 0, 255) = 255",
            "passes(2, 0, 255) = 255", "passes(2, 0, 128) = 1", "passes(2, 1, 128) = 128");
    }

    private static void mark() {
        Rows.unchanged("NONE", Stages::few, "mark(-1, 0) = -1", "mark(2, 0) = -1", "mark(least, 0) = -1",
            "mark(most, 0) = -1");
        Rows.unchanged("BAD", Stages::few, "mark(0, -1) = -2", "mark(0, 256) = -2", "mark(1, 256) = -2",
            "mark(0, least) = -2", "mark(0, most) = -2");
        Rows.unchanged("NONE ahead of BAD", Stages::few, "mark(2, 256) = -1", "mark(-1, -1) = -1");
        Rows.run("what they were", Stages.few(), "mark(0, 255) = 9", "mark(0, 0) = 255", "mark(0, 0) = 0", "at(0, 0) = 0",
            "mark(1, 1) = 248", "at(1, 0) = 1", "at(1, 2) = 1", "at(0, 1) = 1", "told(0) = 1");
        Rows.run("the fifth", Stages.full(), "mark(4, 255) = 1", "mark(5, 0) = -1", "at(4, 0) = 255");
    }

    private static void start() {
        Rows.unchanged("NONE", Stages::few, "start(-1) = -1", "start(2) = -1", "start(least) = -1", "start(most) = -1");
        Rows.unchanged("NONE: no PILGRIMS", Stages::fresh, "start(0) = -1");
        Rows.run("PLACE 0, not BACK: its PLACE ahead of that", Stages.few(), "start(0) = 1", "at(0, 1) = 0",
            "start(0) = 0", "start(1) = 0", "at(1, 2) = 0", "at(1, 0) = 248", "at(0, 0) = 9", "told(4) = 0");
        Rows.run("the other one stays BACK", Stages.few(), "start(0) = 1", "at(1, 2) = 1", "told(4) = 1");
        Rows.run("its PLACE, behind all MAIDS", new Subject().does("maid(0, 0)", "pilgrim(0)", "pass(1)"),
            "told(3) = 1", "start(0) = 1", "told(3) = 0");
    }

    private static void lamp() {
        Rows.unchanged("NONE", Stages::few, "lamp(-1, true) = -1", "lamp(3, true) = -1", "lamp(3, false) = -1",
            "lamp(least, true) = -1", "lamp(most, true) = -1");
        Rows.unchanged("NONE: no MAIDS", Stages::fresh, "lamp(0, true) = -1");
        Rows.unchanged("whether it was, and is as it was", Stages::few, "lamp(0, false) = 0", "lamp(1, true) = 1");
        Rows.run("not at first", new Subject().does("maid(0, 0)"), "of(0, 2) = 0", "told(2) = 0", "lamp(0, true) = 0",
            "of(0, 2) = 1", "told(2) = 1", "lamp(0, true) = 1", "lamp(0, false) = 1", "of(0, 2) = 0", "told(2) = 0");
        Rows.run("the sixth", Stages.full(), "lamp(5, true) = 0", "told(2) = 52", "lamp(6, true) = -1", "lamp(5, false) = 1",
            "told(2) = 20");
    }

    private static void row() {
        Rows.unchanged("NONE: maid", Stages::few, "row(-1, 0, 0) = -1", "row(3, 0, 0) = -1", "row(least, 0, 0) = -1",
            "row(most, 0, 0) = -1");
        Rows.unchanged("NONE: part", Stages::few, "row(1, -1, 0) = -1", "row(1, 4, 0) = -1", "row(1, least, 0) = -1",
            "row(1, most, 0) = -1");
        Rows.unchanged("BAD", Stages::few, "row(1, 0, -1) = -2", "row(1, 0, 10) = -2", "row(1, 3, 10) = -2",
            "row(1, 0, least) = -2", "row(1, 0, most) = -2");
        Rows.unchanged("STATE: another KIND", Stages::kinds, "row(0, 0, 1) = -3", "row(1, 0, 1) = -3", "row(2, 3, 1) = -3",
            "row(3, 0, 1) = -3", "row(4, 0, 1) = -3");
        Rows.unchanged("STATE: MAID is another KIND", () -> new Subject().does("maid(0, 0)"), "row(0, 0, 0) = -3");
        Rows.unchanged("NONE ahead of BAD and STATE", Stages::few, "row(3, 0, 10) = -1", "row(1, 4, 10) = -1",
            "row(0, 4, 0) = -1", "row(0, -1, 10) = -1");
        Rows.unchanged("BAD ahead of STATE", Stages::few, "row(0, 0, 10) = -2", "row(2, 3, -1) = -2");
        Rows.run("n (0 .. 9), what it was", Stages.few(), "row(1, 0, 9) = 5", "row(1, 0, 0) = 9", "row(1, 0, 0) = 0",
            "row(1, 3, 9) = 8", "row(1, 3, 0) = 9", "row(1, 2, 0) = 7");
        Rows.run("0 at first", Stages.kinds(), "row(5, 0, 1) = 0", "row(5, 1, 1) = 0", "row(5, 2, 1) = 0", "row(5, 3, 1) = 0");
    }
}
