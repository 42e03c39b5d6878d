/** Promises 31 to 40, sentence by sentence: both sides of each bound, which refusal comes first, what it leaves. */
public final class RestBoundsTest {
    public static void main(String[] args) {
        image();
        undo();
        act();
        trace();
        taken();
        count();
        tape();
        item();
        read();
        shift();
        shiftPlaces();
        Due.end("RestBoundsTest");
    }

    private static void image() {
        Rows.run("how many MAIDS there are", Stages.few(), "image() = 3");
        Rows.run("none", new Subject(), "image() = 0", "undo() = 0");
        Rows.run("six", Stages.full(), "image() = 6");
        Rows.run("a newer one instead", Stages.few(), "image() = 3", "mark(0, 1) = 9", "undo() = 3", "at(0, 0) = 9", "told(2) = 6");
        Rows.unchanged("THE IMAGE is as all is: undone at once it is as it was", () -> Stages.few().does("image()"),
            "undo() = 3", "image() = 3");
    }

    private static void undo() {
        Rows.unchanged("STATE: there is none", Stages::fresh, "undo() = -3");
        Rows.unchanged("STATE: there is none", Stages::nearlyFull, "undo() = -3");
        Rows.run("as often as one likes", Stages.few(), "undo() = 3", "at(0, 0) = 14", "told(2) = 4", "mark(0, 1) = 14",
            "undo() = 3", "at(0, 0) = 14", "row(1, 3, 2) = 0", "undo() = 3", "row(1, 3, 2) = 0", "count(3) = 1", "count(4) = 3",
            "count(5) = 2");
        Rows.run("which WAY holds: none", new Subject().does("image()").feeds("many 3"), "way() = 0", "told(1) = 3", "undo() = 0",
            "told(1) = 9", "count(2) = 1");
        Rows.run("which WAY holds: another", new Subject().feeds("many 3").does("way()", "image()").feeds("many 4"),
            "way() = 1", "told(1) = 4", "undo() = 0", "told(1) = 3", "count(2) = 2");
        Rows.run("MAIDS and PILGRIMS who came later are gone", new Subject().does("image()", "maid(0, 0)", "pilgrim(1)"),
            "undo() = 0", "of(0, 0) = -1", "at(0, 0) = -1", "maid(1, 1) = 0", "pilgrim(9) = 0", "at(0, 0) = 9", "of(0, 0) = 1");
        Rows.run("DAY", new Subject().does("pass(7)", "image()", "pass(60)"), "undo() = 0", "told(0) = 7");
    }

    private static void act() {
        Rows.unchangedButTrace("0: no such MAID", Stages::few, "act(-1, 0, 5) = 0", "act(3, 0, 5) = 0", "act(least, 1, 5) = 0",
            "act(most, 2, 5) = 0");
        Rows.unchangedButTrace("0: no such act", Stages::few, "act(0, -1, 5) = 0", "act(0, 3, 5) = 0", "act(0, least, 5) = 0",
            "act(0, most, 5) = 0");
        Rows.unchangedButTrace("an ACT changes nothing but THE TRACE", Stages::few, "act(0, 0, 5) = 5", "act(1, 2, 5) = 23",
            "act(2, 1, 5) = 17");
        for (String refused : new String[] {"act(-1, 0, 5)", "act(3, 0, 5)", "act(0, -1, 5)", "act(0, 3, 5)"}) {
            Rows.run("no TRACE then", Stages.few(), "count(7) = 12", "trace(0) = 40", refused + " = 0", "count(7) = 0",
                "trace(0) = -1");
        }
        Rows.run("wrapping", new Subject().does("maid(0, 9)", "maid(0, 9)"), "act(1, 0, most) = -2147483648",
            "act(0, 1, least) = 2147483639", "act(0, 2, most) = -20", "act(1, 2, least) = -16");
        Rows.run("wrapping by SETTER and FOND", new Subject().does("maid(1, 9)", "maid(4, 0)", "maid(4, 9)"),
            "act(0, 1, least) = 2147483633", "act(1, 0, most) = -2147483648", "act(2, 0, least) = 2147483646",
            "act(1, 1, most) = 2147483641", "act(2, 1, least) = 2147483634");
        Rows.run("wrapping by TURNER and DARK", new Subject().does("maid(2, 0)", "maid(5, 0)", "maid(5, 0)"),
            "act(0, 0, most) = 2147483645", "act(0, 0, 1431655766) = 2", "act(1, 2, 715827883) = -2", "act(2, 2, least) = -8");
        Rows.run("wrapping by WIPER and TOLD", new Subject().does("maid(3, 0)", "maid(6, 0)"), "act(0, 2, 1073741824) = -2147483647",
            "act(1, 0, most) = -2147483648", "act(1, 1, most) = -2147483645");
        Rows.run("wrapping by what is put together", new Subject().does("maid(6, 0)").times(5, "maid(3, 0)"),
            "act(0, 1, most) = -2147483647", "act(5, 2, 1073741818) = -2147483644");
        Rows.run("the least is its own opposite", new Subject().does("maid(4, 0)"), "act(0, 0, least) = least");
    }

    private static void trace() {
        Rows.unchanged("NONE", Stages::few, "trace(-1) = -1", "trace(12) = -1", "trace(19) = -1", "trace(20) = -1",
            "trace(21) = -1", "trace(least) = -1", "trace(most) = -1");
        Rows.unchanged("as they began", Stages::few, "trace(0) = 40", "trace(1) = 12", "trace(2) = 70", "trace(3) = 11",
            "trace(4) = 71", "trace(5) = 10", "trace(6) = 10", "trace(7) = 70", "trace(8) = 11", "trace(9) = 71",
            "trace(10) = 10", "trace(11) = 10");
        Rows.unchanged("no act yet", Stages::fresh, "trace(0) = -1");
        Rows.run("of the latest act() alone", Stages.few(), "act(0, 0, 1) = 1", "trace(0) = 10", "trace(1) = -1", "count(7) = 1");
    }

    private static void taken() {
        Rows.unchanged("BAD: k", Stages::few, "taken(0, -1) = -2", "taken(0, 7) = -2", "taken(0, least) = -2", "taken(0, most) = -2");
        Rows.unchanged("NOTHING: no such MAID", Stages::few, "taken(-1, 0) = -11", "taken(3, 0) = -11", "taken(3, 6) = -11",
            "taken(least, 0) = -11", "taken(most, 0) = -11");
        Rows.unchanged("BAD ahead of NOTHING", Stages::few, "taken(3, 7) = -2", "taken(-1, -1) = -2");
        Rows.unchanged("CAST", Stages::kinds, "taken(0, 4) = -12", "taken(0, 2) = -12", "taken(1, 5) = -12", "taken(2, 6) = -12",
            "taken(3, 2) = -12", "taken(4, 1) = -12", "taken(5, 1) = -12", "taken(5, 5) = -12");
        Rows.unchanged("her KIND", Stages::kinds, "taken(0, 0) = 1", "taken(0, 1) = 1", "taken(3, 4) = 4", "taken(3, 1) = 4",
            "taken(3, 0) = 4", "taken(4, 2) = 5", "taken(5, 3) = 6", "taken(5, 6) = 6", "taken(5, 0) = 6");
        Rows.unchanged("MAID alone", () -> new Subject().does("maid(0, 0)"), "taken(0, 0) = 0", "taken(0, 1) = -12",
            "taken(0, 6) = -12");
    }

    private static void count() {
        Rows.unchanged("BAD", Stages::few, "count(-1) = -2", "count(8) = -2", "count(least) = -2", "count(most) = -2");
        Rows.unchanged("How many", Stages::few, "count(0) = 3", "count(1) = 2", "count(2) = 1", "count(3) = 2", "count(4) = 4",
            "count(5) = 3", "count(6) = 2", "count(7) = 12");
        Rows.unchanged("all full", Stages::full, "count(0) = 6", "count(1) = 5", "count(2) = 6", "count(3) = 5", "count(4) = 10",
            "count(5) = 8", "count(6) = 100");
    }

    private static void tape() {
        Rows.unchanged("NONE: tape", Stages::few, "tape(-1, 0, 0) = -1", "tape(6, 0, 0) = -1", "tape(6, -1, 0) = -1",
            "tape(least, 0, 0) = -1", "tape(most, 0, 0) = -1");
        Rows.unchanged("BAD: sort", Stages::few, "tape(1, -2, 0) = -2", "tape(1, 5, 0) = -2", "tape(1, least, 0) = -2",
            "tape(1, most, 0) = -2");
        Rows.unchanged("BAD: n above 60", Stages::few, "tape(1, 0, 61) = -2", "tape(1, 4, 61) = -2", "tape(1, 3, most) = -2");
        Rows.unchanged("SIZE", Stages::few, "tape(1, 0, -1) = -14", "tape(1, 4, -1) = -14", "tape(1, 2, least) = -14");
        Rows.unchanged("NONE ahead of BAD and SIZE", Stages::few, "tape(6, 5, 0) = -1", "tape(-1, 0, 61) = -1",
            "tape(6, 0, -1) = -1");
        Rows.unchanged("BAD ahead of SIZE", Stages::few, "tape(1, 5, -1) = -2", "tape(1, -2, -1) = -2");
        Rows.each("TAPES 0 .. 5, n (0 .. 60), sorts 0 .. 4", Stages::few, "tape(0, 0, 0) = 1", "tape(5, 4, 60) = 1",
            "tape(0, 4, 60) = 1", "tape(5, 0, 0) = 1");
        Rows.each("sort -1: n does not matter", Stages::few, "tape(1, -1, 0) = 1", "tape(1, -1, -1) = 1", "tape(1, -1, 61) = 1",
            "tape(1, -1, least) = 1", "tape(1, -1, most) = 1");
        Rows.run("or holds nothing", Stages.few(), "read(1, 1) = 9", "tape(1, -1, 3) = 1", "read(1, 1) = NO", "item(1, 1, 0) = -11");
        Rows.run("all 0", Stages.few(), "tape(1, 1, 4) = 1", "read(1, 1) = 0", "read(1, 2) = 0", "item(1, 1, 5) = 1",
            "tape(1, 1, 1) = 1", "read(1, 1) = NO", "tape(1, 1, 60) = 1", "read(1, 1) = 0", "read(1, 59) = 0", "read(1, 60) = NO");
        Rows.unchanged("nothing (at first)", Stages::fresh, "tape(0, -1, 5) = 1", "tape(5, -1, 5) = 1");
    }

    private static void item() {
        Rows.unchanged("NONE", Stages::few, "item(-1, 0, 1) = -1", "item(6, 0, 1) = -1", "item(least, 0, 1) = -1",
            "item(most, 0, 1) = -1");
        Rows.unchanged("NOTHING", Stages::few, "item(5, 0, 1) = -11", "item(5, -1, 1) = -11", "item(5, 60, 1) = -11");
        Rows.unchanged("PLACE", Stages::few, "item(1, -1, 1) = -13", "item(1, 4, 1) = -13", "item(1, least, 1) = -13",
            "item(1, most, 1) = -13");
        Rows.unchanged("NONE ahead of PLACE", Stages::few, "item(6, 60, 1) = -1", "item(-1, -1, 1) = -1");
        Rows.unchanged("PLACE: a row of 0", () -> new Subject().does("tape(0, 0, 0)"), "item(0, 0, 1) = -13", "read(0, 0) = NO");
        Rows.run("the first and the last of 60", Stages.full(), "item(5, 0, 8) = 1", "item(5, 59, 9) = 1", "item(5, 60, 9) = -13",
            "read(5, 0) = 8", "read(5, 59) = 9");
        Rows.run("bytes: as many bits as an item has", Stages.few(), "item(0, 0, 127) = 1", "read(0, 0) = 127",
            "item(0, 0, 128) = 1", "read(0, 0) = -128", "item(0, 0, 256) = 1", "read(0, 0) = 0", "item(0, 0, -129) = 1",
            "read(0, 0) = 127");
        Rows.run("shorts", Stages.few(), "item(1, 0, 32767) = 1", "read(1, 0) = 32767", "item(1, 0, 32768) = 1",
            "read(1, 0) = -32768", "item(1, 0, 65536) = 1", "read(1, 0) = 0");
        Rows.run("ints", Stages.few(), "item(2, 0, most) = 1", "read(2, 0) = most", "item(2, 0, 2147483648) = 1",
            "read(2, 0) = least", "item(2, 0, 4294967297) = 1", "read(2, 0) = 1");
        Rows.run("longs", Stages.few(), "item(3, 0, 9223372036854775807) = 1", "read(3, 0) = 9223372036854775807",
            "item(3, 0, NO) = 1", "read(3, 0) = NO", "item(3, 0, -1) = 1", "read(3, 0) = -1");
        Rows.run("booleans: whether v is not 0", Stages.few(), "item(4, 0, 2) = 1", "read(4, 0) = 1", "item(4, 0, 0) = 1",
            "read(4, 0) = 0", "item(4, 0, -1) = 1", "read(4, 0) = 1", "item(4, 0, 4294967296) = 1", "read(4, 0) = 1");
    }

    private static void read() {
        Rows.unchanged("NO: no such TAPE", Stages::few, "read(-1, 0) = NO", "read(6, 0) = NO", "read(least, 0) = NO",
            "read(most, 0) = NO");
        Rows.unchanged("NO: nothing there", Stages::few, "read(5, 0) = NO", "read(5, -1) = NO");
        Rows.unchanged("NO: no such place", Stages::few, "read(1, -1) = NO", "read(1, 4) = NO", "read(3, 2) = NO",
            "read(1, least) = NO", "read(1, most) = NO");
        Rows.unchanged("Item i", Stages::few, "read(1, 0) = 0", "read(1, 1) = 9", "read(1, 3) = 0", "read(3, 0) = 99", "read(4, 2) = 1");
    }

    private static void shift() {
        Rows.unchanged("NONE: tapes", Stages::few, "shift(-1, 0, 0, 0, 1) = -1", "shift(6, 0, 0, 0, 1) = -1",
            "shift(0, 0, -1, 0, 1) = -1", "shift(0, 0, 6, 0, 1) = -1", "shift(least, 0, 0, 0, 1) = -1", "shift(0, 0, most, 0, 1) = -1");
        Rows.unchanged("NOTHING", Stages::few, "shift(5, 0, 0, 0, 1) = -11", "shift(0, 0, 5, 0, 1) = -11",
            "shift(5, 0, 5, 0, 0) = -11");
        Rows.unchanged("CAST: of unlike sorts", Stages::few, "shift(0, 0, 1, 0, 1) = -12", "shift(1, 0, 0, 0, 0) = -12",
            "shift(2, 0, 3, 0, 1) = -12", "shift(4, 0, 0, 0, 1) = -12");
        Rows.unchanged("NONE ahead of NOTHING", Stages::few, "shift(5, 0, 6, 0, 1) = -1", "shift(-1, 0, 5, 0, 1) = -1");
        Rows.unchanged("NOTHING ahead of CAST and PLACE", Stages::few, "shift(5, -1, 0, 0, 1) = -11", "shift(0, 0, 5, 9, -1) = -11");
        Rows.unchanged("CAST ahead of PLACE", Stages::few, "shift(0, -1, 1, 0, 1) = -12", "shift(0, 0, 1, 0, -1) = -12",
            "shift(2, 0, 3, 0, 60) = -12");
    }

    private static void shiftPlaces() {
        Rows.unchanged("PLACE: below 0", Stages::few, "shift(1, 0, 1, 0, -1) = -13", "shift(1, -1, 1, 0, 1) = -13",
            "shift(1, 0, 1, -1, 1) = -13", "shift(1, -1, 1, 0, 0) = -13", "shift(1, 0, 1, -1, 0) = -13",
            "shift(1, least, 1, 0, 1) = -13", "shift(1, 0, 1, least, 1) = -13", "shift(1, 0, 1, 0, least) = -13");
        Rows.unchanged("PLACE: beyond either's end", Stages::few, "shift(1, 0, 1, 0, 5) = -13", "shift(1, 1, 1, 0, 4) = -13",
            "shift(1, 0, 1, 1, 4) = -13", "shift(1, 5, 1, 0, 0) = -13", "shift(1, 0, 1, 5, 0) = -13", "shift(1, most, 1, 0, 1) = -13",
            "shift(1, 0, 1, most, 1) = -13", "shift(1, 1, 1, 1, most) = -13", "shift(1, most, 1, most, most) = -13");
        Rows.unchanged("none, up to the very end", Stages::few, "shift(1, 0, 1, 0, 0) = 0", "shift(1, 4, 1, 4, 0) = 0",
            "shift(1, 4, 1, 0, 0) = 0");
        Rows.unchanged("onto themselves", Stages::few, "shift(1, 0, 1, 0, 4) = 4", "shift(1, 1, 1, 1, 3) = 3");
        Rows.run("another one: the end of the shorter", Stages.few().does("tape(5, 1, 2)"), "shift(1, 1, 5, 0, 2) = 2",
            "read(5, 0) = 9", "read(5, 1) = 48", "shift(1, 0, 5, 0, 3) = -13", "shift(5, 0, 1, 0, 3) = -13", "shift(5, 1, 1, 3, 1) = 1",
            "read(1, 3) = 48", "read(1, 1) = 9");
        Rows.run("as they all were before", Stages.few(), "shift(1, 0, 1, 1, 3) = 3", "read(1, 0) = 0", "read(1, 1) = 0",
            "read(1, 2) = 9", "read(1, 3) = 48", "shift(1, 1, 1, 0, 3) = 3", "read(1, 0) = 0", "read(1, 1) = 9", "read(1, 2) = 48",
            "read(1, 3) = 48");
    }
}
