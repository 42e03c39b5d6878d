/** Objects that tests begin with, always made by the same calls. */
final class Stages {
    private Stages() { }

    static Subject fresh() {
        return new Subject();
    }

    /** Three MAIDS, two PILGRIMS, something of all else, and an image that differs from how it is now. */
    static Subject few() {
        return fewWithoutText().feeds("ma");
    }

    static Subject fewWithoutText() {
        return new Subject()
            .does("maid(1, 3)", "maid(6, 9)", "maid(2, 0)", "pilgrim(6)", "pilgrim(240)")
            .does("row(1, 0, 5)", "row(1, 2, 7)", "lamp(2, true)")
            .does("tape(0, 0, 3)", "tape(1, 1, 4)", "tape(2, 2, 4)", "tape(3, 3, 2)", "tape(4, 4, 4)")
            .does("item(0, 1, 7)", "item(1, 1, 9)", "item(1, 2, 48)", "item(2, 3, 5)", "item(3, 0, 99)", "item(4, 2, 1)")
            .does("see(6, 14)", "plan(0, 0)", "plan(1, 0)", "plan(3, 1)", "book(0, 14)", "book(1, 3)")
            .feeds("many 5").does("way()", "pass(1)", "image()")
            .does("lamp(2, false)", "lamp(0, true)", "mark(0, 9)", "pass(1)", "see(9, 9)", "book(0, 9)")
            .does("plan(0, 0)", "row(1, 3, 8)", "maid(3, 0)", "undo()")
            .does("lamp(1, true)", "mark(0, 9)", "see(9, 9)", "book(0, 9)", "plan(0, 0)", "row(1, 3, 8)", "act(1, 2, 7)");
    }

    /** Six MAIDS, five PILGRIMS, six WAYS, and THE TEXT, SEEN, the PLAN and the BOOK full. */
    static Subject full() {
        Subject x = new Subject();
        for (int i = 0; i < 6; i++) x.does("maid(" + (6 - i) + ", " + (i + 4) + ")");
        for (int i = 0; i < 5; i++) x.does("pilgrim(" + (200 >> i) + ")");
        for (int i = 1; i <= 6; i++) x.feeds("many " + i).does("way()");
        x.does("row(0, 1, 6)", "lamp(4, true)", "image()", "lamp(2, true)", "mark(1, 5)", "pass(2)");
        for (int i = 0; i < 5; i++) x.does("see(" + 16 * i + ", " + (16 * i + 2) + ")");
        for (int i = 0; i < 10; i++) x.does("plan(" + i % 4 + ", " + i % 5 + ")");
        for (int i = 0; i < 8; i++) x.does("book(" + i % 5 + ", " + (i * 31) + ")");
        x.does("tape(5, 1, 60)", "item(5, 4, 3)", "act(0, 2, 5)");
        return x.feeds("many 7;".repeat(14) + "ma");
    }

    /** Of all that has a limit as much as there can be but one. */
    static Subject nearlyFull() {
        Subject x = new Subject();
        for (int i = 0; i < 5; i++) x.does("maid(" + i + ", " + i + ")");
        for (int i = 0; i < 4; i++) x.does("pilgrim(" + i + ")");
        for (int i = 1; i <= 5; i++) x.feeds("many " + i).does("way()");
        x.times(4, "see(1, 1)").times(9, "plan(0, 0)").times(7, "book(0, 0)");
        return x.feeds("many 7;".repeat(14) + "m");
    }

    /** DAY 9940, with a TOLD one and a PILGRIM who set out late. */
    static Subject late() {
        return new Subject().does("maid(6, 0)", "maid(2, 0)", "row(0, 3, 9)").times(165, "pass(60)")
            .does("pass(40)", "pilgrim(6)");
    }

    /** A MAID of each KIND but 0, numbers 0 .. 5. */
    static Subject kinds() {
        Subject x = new Subject();
        for (int kind = 1; kind <= 6; kind++) x.does("maid(" + kind + ", 4)");
        return x;
    }
}
