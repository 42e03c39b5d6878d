/** "Terms", sentence by sentence: where what they tell begins, ends or comes round. */
public final class TermsBoundsTest {
    public static void main(String[] args) {
        clauses();
        spacesAndNumbers();
        within();
        faults();
        tests();
        heeded();
        many();
        says();
        aDay();
        comes();
        bodies();
        Due.end("TermsBoundsTest");
    }

    private static Subject reads(String text) {
        return new Subject().does("maid(1, 8)", "maid(5, 3)", "pilgrim(0)").feeds(text);
    }

    private static void isWay(String sentence, String... texts) {
        for (String text : texts) Rows.run(sentence + ": " + text, reads(text), "way() = 0", "count(2) = 1", "count(6) = 0");
    }

    private static void isFault(String sentence, int place, String... texts) {
        for (String text : texts) {
            Subject x = reads("many 4").does("way()").feeds(text);
            Rows.run(sentence + ": " + text, x, "way() = " + (-10 - place), "count(2) = 1", "count(6) = 0", "told(1) = 4");
        }
    }

    private static void clauses() {
        String nine = "many 1;".repeat(8) + "many 1";
        isFault("CLAUSES, 1 to 10: none", 0, "", ";", ";many 1");
        isWay("CLAUSES, 1 to 10", "many 1", nine, nine + ";many 2");
        isFault("CLAUSES, 1 to 10: eleven", 69, nine + ";many 2;", nine + ";many 2;many 3", nine + ";many 2;x");
        isFault("; between, not behind", 7, "many 1;", "many 1;;many 1", "many 1; many 1");
        Rows.run("the tenth counts", reads(nine + ";deaf 2 l=0").does("way()"), "passes(0, 1, 0) = 0");
        String hundred = "heed 12 " + "l=1&".repeat(21) + "v<9|m=01";
        isWay("100 at most", hundred);
        Rows.run("100 at most", reads(hundred), "count(6) = 100", "feed(59) = -4", "way() = 0", "count(2) = 1");
    }

    private static void spacesAndNumbers() {
        isFault("one blank ahead of each part", 4, "many1", "many", "many\t1");
        isFault("one blank alone", 5, "many  1", "heed  1 l=1", "deaf  1 l=1");
        isFault("one blank ahead of E", 6, "heed 1", "deaf 1", "heed 1l=1", "deaf 1(l=1)", "heed 1;");
        isFault("one blank alone ahead of E", 7, "heed 1  l=1", "deaf 1  l=1");
        isFault("no blank elsewhere", 10, "heed 1 l=1 ", "deaf 1 l=1 |l=2");
        isFault("n 1 or 2 digits: none", 5, "many ", "many x", "heed  l=1", "many -1", "many +1");
        isWay("n 1 or 2 digits", "many 0", "many 9", "many 00", "many 99", "heed 0 l=1", "heed 99 l=1", "deaf 09 l=1");
        isFault("n 1 or 2 digits: three", 7, "many 100", "heed 100 l=1", "deaf 001 l=1");
        isFault("a number (1 or 2 digits): none", 9, "heed 1 l=", "heed 1 l=)", "heed 1 l=;", "heed 1 l==1");
        isWay("a number (1 or 2 digits)", "heed 1 l=0", "heed 1 l=9", "heed 1 l=00", "heed 1 l=99");
        isFault("a number (1 or 2 digits): three", 11, "heed 1 l=100", "heed 1 l=001");
        Rows.run("0 and 99", reads("deaf 99 l=0;heed 99 l=0").does("way()"), "passes(0, 1, 0) = 1");
        Rows.run("98 and 99", reads("deaf 99 l=0;heed 98 l=0").does("way()"), "passes(0, 1, 0) = 0");
        Rows.run("many 0", reads("many 0").does("way()"), "told(1) = 0", "at(0, 3) = -5");
        Rows.run("many 99", reads("many 99").does("way()"), "told(1) = 99");
    }

    private static void within() {
        isWay("within 3 others", "heed 1 ((((l=1))))", "heed 1 !!!!l=1", "heed 1 (!(!l=1))", "heed 1 !(!(l=1))",
            "heed 1 ((((l=1))))|((((l=1))))", "heed 1 !!!!l=1&!!!!l=1", "heed 1 (((l=1|!l=1)&!l=1)&!l=1)");
        isFault("A ( or ! within 4 others is none", 11, "heed 1 (((((l=1)))))", "heed 1 !!!!!l=1", "heed 1 ((((!l=1))))",
            "heed 1 !!!!(l=1)", "heed 1 (!(!(l=1)))");
        isFault("A ( or ! within 4 others is none, behind others", 15, "heed 1 ((((l=1&!l=1))))", "heed 1 ((((l=1|(l=1)))))");
    }

    private static void faults() {
        isFault("the first byte with which none begins so", 0, "x", "H", "1", "(l=1)", " heed 1 l=1", "!");
        isFault("the end, if it ends too early", 1, "h", "d", "m");
        isFault("the end, if it ends too early", 3, "hee", "dea", "man");
        isFault("the end, if it ends too early", 8, "heed 1 l", "heed 1 (", "heed 1 !", "deaf 1 d");
        isFault("the end, if it ends too early", 11, "heed 1 (l=1", "heed 1 l=1&", "heed 1 l=1|", "heed 1 l=1;");
        isFault("a letter", 7, "heed 1 L=1", "heed 1 a=1", "heed 1 =1", "heed 1 1=l", "heed 1 )", "heed 1 ;");
        isFault("< or = or >", 8, "heed 1 l!1", "heed 1 l1", "heed 1 ll", "heed 1 l&");
        isFault("(E)", 8, "heed 1 ()", "heed 1 (;", "heed 1 (|");
        isFault("(E), left open", 11, "heed 1 (l=1;many 1", "heed 1 (l=1 ", "heed 1 (l=1x");
        isFault(") of none", 10, "heed 1 l=1)", "heed 1 l=1!", "heed 1 l=1(");
        isFault("a byte of the least and the greatest kind", 6, "many 1\u0000", "many 1\u007f");
    }

    private static void tests() {
        // MAID 0 is a SETTER of MARK 0 with v 8, MAID 1 DARK with v 3.
        String[] whose = {"l", "k", "v"};
        int[] ofSetter = {0, 1, 8};
        int[] ofDark = {1, 5, 3};
        for (int i = 0; i < 3; i++) {
            for (int n = 0; n < 10; n++) {
                for (int sign = -1; sign <= 1; sign++) {
                    Subject x = reads("deaf 1 " + whose[i] + "<=>".charAt(sign + 1) + n).does("way()");
                    Rows.run(whose[i], x, "passes(0, 1, 2) = " + (Integer.compare(ofSetter[i], n) == sign ? 2 : 3),
                        "passes(1, 1, 2) = " + (Integer.compare(ofDark[i], n) == sign ? 2 : 16));
                }
            }
        }
        Rows.run("m how many MARKS", reads("deaf 1 m=8").does("way()"), "passes(1, 1, 255) = 255", "of(1, 3) = 254");
        Rows.run("m how many MARKS: none", reads("deaf 1 m=0").does("way()"), "passes(0, 1, 0) = 0", "of(0, 3) = 127");
        Rows.run("f MARKS modulo 10", reads("deaf 1 f=0").does("way()"), "passes(1, 1, 10) = 10", "passes(1, 1, 9) = 72",
            "passes(1, 1, 11) = 88", "passes(1, 1, 250) = 250", "passes(1, 1, 0) = 0");
        Rows.run("f MARKS modulo 10", reads("deaf 1 f=5").does("way()"), "passes(1, 1, 255) = 255", "passes(1, 1, 254) = 247");
        Rows.run("f is never 10", reads("deaf 1 f>9|f=10").does("way()"), "passes(1, 1, 10) = 80");
        Rows.run("d DAY modulo 10", reads("deaf 1 d=9").does("way()"), "pass(8) = 8", "passes(0, 1, 2) = 3", "pass(1) = 9",
            "passes(0, 1, 2) = 2", "pass(1) = 10", "passes(0, 1, 2) = 3", "pass(9) = 19", "passes(0, 1, 2) = 2");
        Rows.run("d DAY modulo 10", reads("deaf 1 d=0").does("way()"), "passes(0, 1, 2) = 2", "pass(1) = 1", "passes(0, 1, 2) = 3",
            "pass(9) = 10", "passes(0, 1, 2) = 2");
        Rows.run("d on DAYS beyond 9999", new Subject().does("maid(1, 0)", "maid(2, 0)").times(166, "pass(60)")
            .does("pass(39)", "pilgrim(0)").feeds("deaf 1 d=0").does("way()"), "on(1, 10) = 1", "on(2, 10) = 1", "at(0, 3) = 1");
    }

    private static void heeded() {
        Rows.run("above 0: 1", reads("deaf 0 l=0").does("way()"), "passes(0, 1, 2) = 3");
        Rows.run("above 0: 0 is not", reads("deaf 1 l=0").does("way()"), "passes(0, 1, 2) = 2");
        Rows.run("above 0: below 0 is not", reads("deaf 99 l=0").does("way()"), "passes(0, 1, 2) = 2");
        Rows.run("1, and heed 1, less deaf 1", reads("heed 1 l=0;deaf 1 l=0").does("way()"), "passes(0, 1, 2) = 3");
        Rows.run("1, and heed 1, less deaf 2", reads("heed 1 l=0;deaf 2 l=0").does("way()"), "passes(0, 1, 2) = 2");
        Rows.run("all heed, all deaf, together", reads("deaf 3 l=0;heed 1 l=0;heed 1 k=1;heed 1 v=8").does("way()"),
            "passes(0, 1, 2) = 3");
        Rows.run("all deaf, together", reads("heed 2 l=0;deaf 1 l=0;deaf 1 k=1;deaf 1 v=8").does("way()"), "passes(0, 1, 2) = 2");
        Rows.run("without one there are no CLAUSES", reads(""), "passes(0, 1, 2) = 3");
        Rows.run("HEEDED, but her LAMP is OUT", reads("heed 9 l=0").does("way()", "lamp(0, true)"), "passes(0, 1, 2) = 2",
            "passes(0, 0, 2) = 3");
    }

    private static void many() {
        Rows.run("9 without: no WAY", reads("").does("maid(4, 2)", "mark(0, 255)"), "told(1) = 9", "at(0, 3) = 255");
        Rows.run("9 without: a WAY without many", reads("heed 1 l=0").does("way()", "mark(0, 255)"), "told(1) = 9", "at(0, 3) = 255");
        Rows.run("9 without, behind one with", reads("many 2").does("way()").feeds("heed 1 l=0"), "told(1) = 2", "way() = 1",
            "told(1) = 9");
        Rows.run("the last one's n", reads("many 2;heed 1 l=0;many 7;deaf 0 l=1"), "way() = 0", "told(1) = 7");
        Rows.run("MANY 8", reads("many 8").does("way()", "mark(0, 254)"), "at(0, 3) = -5", "mark(0, 126) = 254", "at(0, 3) = 251");
    }

    private static Subject oneOf(int kind, int v) {
        return new Subject().does("maid(" + kind + ", " + v + ")");
    }

    private static void says() {
        Rows.run("MAID: MARK 7, 0, 1", oneOf(0, 7), "passes(0, 0, 0) = 128", "passes(0, 0, 255) = 127");
        Rows.run("MAID: v modulo 8", oneOf(0, 8), "passes(0, 0, 0) = 1", "passes(0, 0, 1) = 0");
        Rows.run("MAID: v modulo 8", oneOf(0, 9), "passes(0, 0, 0) = 2", "passes(0, 0, 2) = 0");
        Rows.run("SETTER: that MARK is set", oneOf(1, 7), "passes(0, 0, 0) = 128", "passes(0, 0, 128) = 128");
        Rows.run("SETTER: v modulo 8", oneOf(1, 9), "passes(0, 0, 0) = 2", "passes(0, 0, 2) = 2");
        Rows.run("TURNER: 7 to 0", oneOf(2, 9), "passes(0, 0, 128) = 1", "passes(0, 0, 1) = 2", "passes(0, 0, 64) = 128",
            "passes(0, 0, 255) = 255", "passes(0, 0, 0) = 0");
        Rows.run("WIPER: none is set", oneOf(3, 5), "passes(0, 0, 0) = 0", "passes(0, 0, 1) = 0", "passes(0, 0, 128) = 0",
            "passes(0, 0, 255) = 254", "passes(0, 0, 192) = 128");
        Rows.run("FOND: behind 7: 0", oneOf(4, 7), "passes(0, 0, 0) = 129", "passes(0, 0, 129) = 129");
        Rows.run("FOND: behind 6: 7", oneOf(4, 6), "passes(0, 0, 0) = 192");
        Rows.run("FOND: v modulo 8", oneOf(4, 8), "passes(0, 0, 0) = 3");
        Rows.run("DARK: 0 places", oneOf(5, 0), "passes(0, 0, 129) = 129", "of(0, 3) = 0");
        Rows.run("DARK: 7 places", oneOf(5, 7), "passes(0, 0, 1) = 128", "passes(0, 0, 2) = 1", "passes(0, 0, 128) = 64");
        Rows.run("DARK: 8 places come round", oneOf(5, 8), "passes(0, 0, 129) = 129", "of(0, 3) = 0");
        Rows.run("DARK: 9 places are one", oneOf(5, 9), "passes(0, 0, 128) = 1", "passes(0, 0, 1) = 2");
        Rows.run("TOLD: ROW at DAY modulo 4", oneOf(6, 0).does("row(0, 0, 1)", "row(0, 3, 9)"), "passes(0, 0, 0) = 1",
            "pass(1) = 1", "passes(0, 0, 0) = 0", "pass(2) = 3", "passes(0, 0, 0) = 9", "passes(0, 0, 1) = 9", "passes(0, 0, 9) = 1",
            "pass(1) = 4", "passes(0, 0, 0) = 1", "pass(3) = 7", "passes(0, 0, 0) = 9");
        Rows.run("TOLD: 0 at first", oneOf(6, 0), "passes(0, 0, 0) = 0", "passes(0, 0, 255) = 254");
    }

    private static void aDay() {
        Rows.run("if there are MANY then, it is BACK", reads("many 2").does("way()", "mark(0, 2)", "pass(1)"), "at(0, 2) = 1",
            "at(0, 1) = 0", "at(0, 0) = 3");
        Rows.run("if there are more", reads("many 2").does("way()", "mark(0, 6)", "pass(1)"), "at(0, 2) = 1", "at(0, 0) = 7");
        Rows.run("else PLACE is 1 more", reads("many 2").does("way()", "mark(0, 1)", "pass(1)"), "at(0, 2) = 0", "at(0, 1) = 1");
        Rows.run("then, not ahead of it", new Subject().does("maid(3, 0)", "pilgrim(7)").feeds("many 3").does("way()", "pass(1)"),
            "at(0, 0) = 6", "at(0, 2) = 0", "at(0, 1) = 1");
        Rows.run("not HEEDED, but MANY", reads("many 2;deaf 1 l=0").does("way()", "mark(0, 6)", "pass(1)"), "at(0, 2) = 1",
            "at(0, 0) = 6");
        Rows.run("one who is BACK stays", reads("many 1").does("way()", "pass(1)"), "at(0, 2) = 1", "at(0, 0) = 1", "mark(0, 0) = 1",
            "pass(5) = 6", "at(0, 0) = 0", "at(0, 1) = 0");
        Rows.run("one who is IN stays", reads("").does("pass(2)").feeds("many 0").does("way()"), "told(3) = 1", "at(0, 0) = 8",
            "pass(3) = 5", "at(0, 0) = 8", "at(0, 1) = 2", "at(0, 2) = 0", "at(0, 3) = 8");
        Rows.run("IN behind all MAIDS, at the last one not", reads(""), "pass(1) = 1", "told(3) = 0", "pass(1) = 2", "told(3) = 1",
            "maid(2, 0) = 2", "told(3) = 0", "pass(1) = 3", "told(3) = 1", "at(0, 0) = 16");
    }

    private static void comes() {
        Rows.run("ahead of that: by the last MAID", reads("many 2").does("maid(1, 1)", "way()"), "at(0, 3) = -5", "told(4) = 0");
        Rows.run("by MANY at the last one alone", reads("many 3").does("maid(1, 1)", "way()"), "at(0, 3) = 10");
        Rows.run("its MARKS when it is IN already", reads("").does("pass(2)", "mark(0, 77)"), "at(0, 3) = 77");
        Rows.run("its MARKS from its PLACE on", reads("").does("pass(1)", "mark(0, 32)"), "at(0, 3) = 1", "at(0, 0) = 32");
        Rows.run("going on day by day", new Subject().times(6, "maid(6, 0)").does("row(0, 0, 1)", "row(1, 1, 2)", "row(2, 2, 4)",
            "row(3, 3, 8)", "row(4, 0, 9)", "row(5, 1, 3)", "pilgrim(0)"), "at(0, 3) = 11");
        Rows.run("by all six", new Subject().does("maid(1, 0)", "maid(0, 3)", "maid(4, 4)", "maid(5, 2)", "maid(3, 0)", "maid(1, 9)",
            "pilgrim(0)"), "at(0, 3) = 226", "on(6, 10) = 226", "on(6, 20) = 6", "on(5, 10) = 224");
        Rows.run("though others are BACK", reads("many 2").does("pilgrim(255)", "pass(1)").does("way()", "pass(1)"), "told(4) = 1",
            "at(0, 3) = 8", "at(1, 3) = -5");
    }

    private static void bodies() {
        Rows.run("the next KIND above that has one", Stages.kinds(), "act(3, 2, 1) = -30", "count(7) = 6", "trace(0) = 12",
            "trace(1) = 51", "trace(2) = 20", "trace(3) = 11", "trace(4) = 50", "trace(5) = 10", "trace(6) = -1");
    }
}
