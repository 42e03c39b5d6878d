/** Promises 11 to 13: feed, way, told. */
public final class WaysTest {
    public static void main(String[] args) {
        feeding();
        faults();
        nesting();
        clauses();
        judgements();
        tests();
        twoDigits();
        oneBehindAnother();
        joints();
        sixWays();
        told();
        Due.end("WaysTest");
    }

    private static void feeding() {
        MilestoneMaids x = new MilestoneMaids();
        Due.is("feed(-1)", x.feed(-1), -2);
        Due.is("feed(128)", x.feed(128), -2);
        Due.is("feed(0)", x.feed(0), 1);
        Due.is("feed(127)", x.feed(127), 2);
        for (int i = 3; i <= 100; i++) Due.is("feed " + i, x.feed('m'), i);
        Due.is("feed 101", x.feed('m'), -4);
        Due.is("feed(128), full", x.feed(128), -2);
        Due.is("count(6)", x.count(6), 100);
        Due.is("a sign that begins nothing", x.way(), -10);
        Due.is("empty behind that", x.count(6), 0);
        Due.is("empty", x.way(), -10);
        Due.is("fed anew", x.feed('m'), 1);
    }

    private static void fault(String text, int place) {
        MilestoneMaids x = new MilestoneMaids();
        Due.is("way() of " + text, Due.way(x, text), -10 - place);
        Due.is("the text is empty behind " + text, x.count(6), 0);
        Due.is("no way behind " + text, x.count(2), 0);
    }

    private static void holds(String text) {
        MilestoneMaids x = new MilestoneMaids();
        Due.is("way() of " + text, Due.way(x, text), 0);
        Due.is("the text is empty behind " + text, x.count(6), 0);
        Due.is("one way behind " + text, x.count(2), 1);
    }

    private static void faults() {
        fault(" many 1", 0);
        fault("h", 1);
        fault("hi", 1);
        fault("hee", 3);
        fault("heed", 4);
        fault("heed1", 4);
        fault("heed  1 l=1", 5);
        fault("heed -1 l=1", 5);
        fault("heed 1", 6);
        fault("heed 1;", 6);
        fault("heed 123 l=1", 7);
        fault("heed 12  l=1", 8);
        fault("heed 1 ", 7);
        fault("heed 1 x=1", 7);
        fault("heed 1 l", 8);
        fault("heed 1 l 1", 8);
        fault("heed 1 l=", 9);
        fault("heed 1 l==", 9);
        fault("heed 1 l=x", 9);
        fault("heed 1 l=123", 11);
        fault("heed 1 l=1 ", 10);
        fault("heed 1 l=1&", 11);
        fault("heed 1 l=1&&", 11);
        fault("heed 1 l=1|", 11);
        fault("heed 1 l=1|;", 11);
        fault("heed 1 l=1)", 10);
        fault("heed 1 (l=1", 11);
        fault("heed 1 (l=1;", 11);
        fault("heed 1 ()", 8);
        fault("heed 1 !", 8);
        fault("heed 1 !)", 8);
        fault("heed 1 l=1!", 10);
        fault("heed 1 l=1(", 10);
        fault("deaf 1 l=1;", 11);
        fault("deaf 1 l=1;;", 11);
        fault("deaf 1 l=1;x", 11);
        fault("deed", 2);
        fault("mane", 3);
        fault("many", 4);
        fault("many ", 5);
        fault("many x", 5);
        fault("many 123", 7);
        fault("many 1 l=1", 6);
        fault("many 12l", 7);
        fault("many 1:", 6);
        fault("many 1/", 6);
        fault("many :", 5);
        fault("Many 1", 0);
        fault("many 1\n", 6);
        holds("many 1");
        holds("many 00");
        holds("heed 0 l=0");
        holds("deaf 99 k>99");
        holds("heed 1 (((l<1)))|!!l=1&v>2;many 9");
    }

    private static void nesting() {
        holds("heed 1 ((((l=1))))");
        holds("heed 1 !!!!l=1");
        holds("heed 1 !(!(l=1))");
        holds("heed 1 ((((l=1))))&((((l=1))))|!!!!l=1&!(!(l=1|l=1&l=2)&(!l=1))");
        fault("heed 1 (((((l=1)))))", 11);
        fault("heed 1 !!!!!l=1", 11);
        fault("heed 1 !(!((l=1))))", 11);
        fault("heed 1 !((!(l=1))))", 11);
        fault("heed 1 !((!l=1)))", 16);
        fault("heed 1 l=1&((((!l=1))))", 15);
        fault("heed 1 (((!(l=1))))", 11);
        fault("heed 1 ((((l=1)))))", 18);
    }

    private static void clauses() {
        StringBuilder ten = new StringBuilder("many 1");
        for (int i = 1; i < 10; i++) ten.append(";many ").append(i);
        holds(ten.toString());
        fault(ten + ";", 69);
        fault(ten + ";many 1", 69);
        fault(ten + "x", 69);
        fault(ten + "12", 70);
        MilestoneMaids x = new MilestoneMaids();
        Due.way(x, ten.toString());
        Due.is("the last many holds", x.told(1), 9);
        Due.way(x, "many 12;heed 1 l=1");
        Due.is("two digits", x.told(1), 12);
        Due.way(x, "many 90");
        Due.is("two digits, 90", x.told(1), 90);
        Due.way(x, "many 05");
        Due.is("two digits, 05", x.told(1), 5);
        StringBuilder hundred = new StringBuilder("heed 1 l=1");
        for (int i = 0; i < 22; i++) hundred.append("|l=1");
        Due.is("98 signs", hundred.length(), 98);
        fault(hundred + "|l", 100);
        holds(hundred.toString());
    }

    /** What maid 0, a SETTER with v 0, passes 0 on as, by the way: 1 if she is heeded. */
    private static int heeded(String way, int marks) {
        MilestoneMaids x = new MilestoneMaids();
        x.maid(1, 8);
        Due.is("way() of " + way, Due.way(x, way), 0);
        return x.passes(0, 1, marks) == marks ? 0 : 1;
    }

    private static void judgements() {
        Due.is("only many", heeded("many 0", 0), 1);
        Due.is("deaf by 1", heeded("deaf 1 m=0", 0), 0);
        Due.is("deaf by 0", heeded("deaf 0 m=0", 0), 1);
        Due.is("deaf by what does not hold", heeded("deaf 99 m=1", 0), 1);
        Due.is("heed against deaf", heeded("heed 3 m=0;deaf 3 m=0", 0), 1);
        Due.is("heed against deaf, one more", heeded("heed 3 m=0;deaf 4 m=0", 0), 0);
        Due.is("deaf first", heeded("deaf 4 m=0;heed 4 m=0", 0), 1);
        Due.is("two deafs together", heeded("deaf 2 m=0;heed 3 m=0;deaf 2 l=0", 0), 0);
        Due.is("two heeds together", heeded("heed 2 m=0;deaf 4 m=0;heed 2 l=0", 0), 1);
        Due.is("heed by what does not hold", heeded("heed 9 m=1;deaf 1 m=0", 0), 0);
        Due.is("two digits", heeded("heed 10 m=0;deaf 11 m=0", 0), 0);
        Due.is("two digits, one less", heeded("heed 11 m=0;deaf 11 m=0", 0), 1);
    }

    /** Each test with a number of two digits, which hold or not as the number is above or below. */
    private static void twoDigits() {
        for (int i = 0; i < 6; i++) {
            char letter = "lkvmfd".charAt(i);
            for (int n = 10; n < 100; n++) {
                Due.is(letter + "<" + n, heeded("deaf 1 " + letter + "<" + n, 0), 0);
                Due.is(letter + "=" + n, heeded("deaf 1 " + letter + "=" + n, 0), 1);
                Due.is(letter + ">" + n, heeded("deaf 1 " + letter + ">" + n + "&l=0", 0), 1);
                Due.is("l=0|" + letter + ">" + n, heeded("deaf 1 l=0|" + letter + ">" + n, 0), 0);
            }
        }
    }

    /** A way holds nothing of those that were read ahead of it. */
    private static void oneBehindAnother() {
        MilestoneMaids x = new MilestoneMaids();
        x.maid(1, 0);
        Due.is("deaf", Due.way(x, "deaf 3 m=0"), 0);
        Due.is("deaf to 0", x.passes(0, 1, 0), 0);
        Due.is("a fault", Due.way(x, "deaf 3 m>0;heed"), -25);
        Due.is("deaf to 0 still", x.passes(0, 1, 0), 0);
        Due.is("heeds 2 still", x.passes(0, 1, 2), 3);
        Due.is("deaf to another", Due.way(x, "deaf 1 m=1"), 1);
        Due.is("heeds 0 now", x.passes(0, 1, 0), 1);
        Due.is("deaf to 2 now", x.passes(0, 1, 2), 2);
    }

    private static void tests() {
        // Maid 0 has number 0, kind 1, v 8.
        Due.is("l=0", heeded("deaf 1 l=0", 0), 0);
        Due.is("l>0", heeded("deaf 1 l>0", 0), 1);
        Due.is("k=1", heeded("deaf 1 k=1", 0), 0);
        Due.is("k<1", heeded("deaf 1 k<1", 0), 1);
        Due.is("k<2", heeded("deaf 1 k<2", 0), 0);
        Due.is("v=8", heeded("deaf 1 v=8", 0), 0);
        Due.is("v>8", heeded("deaf 1 v>8", 0), 1);
        Due.is("v>7", heeded("deaf 1 v>7", 0), 0);
        Due.is("v<10", heeded("deaf 1 v<10", 0), 0);
        Due.is("m=7 of 254", heeded("deaf 1 m=7", 254), 0);
        Due.is("m<7 of 254", heeded("deaf 1 m<7", 254), 1);
        Due.is("f=4 of 254", heeded("deaf 1 f=4", 254), 0);
        Due.is("f>4 of 254", heeded("deaf 1 f>4", 254), 1);
        MilestoneMaids x = new MilestoneMaids();
        x.maid(0, 0);
        x.maid(2, 3);
        Due.way(x, "deaf 1 d=3&l=1");
        for (int day = 0; day < 25; day++) {
            Due.is("d=3 on day " + day, x.passes(1, 1, 1), day % 10 == 3 ? 1 : 2);
            Due.is("l=1 is not maid 0", x.passes(0, 1, 1), 0);
            x.pass(1);
        }
    }

    private static void joints() {
        Due.is("| behind &", heeded("deaf 1 l=0|l=1&l=1", 0), 0);
        Due.is("& ahead of |", heeded("deaf 1 l=1&l=1|l=0", 0), 0);
        Due.is("(|)&", heeded("deaf 1 (l=0|l=1)&l=1", 0), 1);
        Due.is("! holds the next alone", heeded("deaf 1 !l=0&l=1", 0), 1);
        Due.is("! of both", heeded("deaf 1 !(l=0&l=1)", 0), 0);
        Due.is("!!", heeded("deaf 1 !!l=0", 0), 0);
        Due.is("! ahead of |", heeded("deaf 1 !l=1|l=1", 0), 0);
        Due.is("a long row of &", heeded("deaf 1 l=0&k=1&v=8&m=0&f=0&d=0&l<1", 0), 0);
        Due.is("a long row of & with one that does not hold", heeded("deaf 1 l=0&k=1&v=8&m=1&f=0&d=0&l<1", 0), 1);
        Due.is("a long row of |", heeded("deaf 1 l=1|k=0|v=7|m=1|f=0|d=1|l>1", 0), 0);
        Due.is("a long row of | with none that holds", heeded("deaf 1 l=1|k=0|v=7|m=1|f=1|d=1|l>1", 0), 1);
        Due.is("deep", heeded("deaf 1 l=1|l=0&(l=1|l=0&(l=1|l=0&(l=1|l=0&(l=1|l=0&l=0))))", 0), 0);
        Due.is("deep, not", heeded("deaf 1 l=1|l=0&(l=1|l=0&(l=1|l=0&(l=1|l=0&(l=1|l=0&l=1))))", 0), 1);
    }

    private static void sixWays() {
        MilestoneMaids x = new MilestoneMaids();
        Due.is("image without a way", x.image(), 0);
        for (int i = 0; i < 5; i++) Due.is("way " + i, Due.way(x, "many " + i), i);
        Due.is("a fault: the one that held holds", Due.way(x, "many"), -14);
        Due.is("many of the fifth", x.told(1), 4);
        Due.is("the sixth", Due.way(x, "heed 1 l=1"), 5);
        Due.is("the newest alone holds", x.told(1), 9);
        Due.is("a seventh", Due.way(x, "many 7"), -4);
        Due.is("the text stays", x.count(6), 6);
        Due.is("fed on", x.feed('x'), 7);
        Due.is("full though it is a fault", x.way(), -4);
        Due.is("the text stays again", x.count(6), 7);
        Due.is("count(2)", x.count(2), 6);
        Due.is("undo", x.undo(), 0);
        Due.is("the ways stay", x.count(2), 6);
        Due.is("full still", x.way(), -4);
    }

    private static void told() {
        MilestoneMaids x = new MilestoneMaids();
        x.maid(1, 0);
        x.maid(5, 4);
        x.maid(0, 1);
        x.maid(0, 2);
        x.pilgrim(0);
        x.pilgrim(0);
        x.pilgrim(0xF0);
        Due.is("MOST: the first of two", x.told(5), 2);
        x.lamp(2, true);
        Due.is("MOST: past a lamp that is out", x.told(5), 3);
        x.lamp(3, true);
        Due.is("out", x.told(2), 12);
        Due.is("MOST: 240 of 256", x.told(5), 1);
        x.lamp(1, true);
        x.lamp(0, true);
        Due.is("MOST: none of them", x.told(5), 0);
        x.lamp(0, false);
        Due.is("MANY", Due.way(x, "many 5"), 0);
        Due.is("told(1)", x.told(1), 5);
        x.pass(1);
        Due.is("DAY", x.told(0), 1);
        Due.is("IN", x.told(3), 0);
        Due.is("BACK", x.told(4), 1);
        x.pass(3);
        Due.is("IN on day 4", x.told(3), 2);
        Due.is("BACK on day 4", x.told(4), 1);
        Due.is("told(6)", x.told(6), -1);
        Due.is("told(-1)", x.told(-1), -1);
    }
}
