/** Promises 20 to 25: see, can, who, when, odds, mean. */
public final class SeenTest {
    public static void main(String[] args) {
        seeing();
        can();
        who();
        when();
        odds();
        mean();
        Due.end("SeenTest");
    }

    private static void seeing() {
        MilestoneMaids x = new MilestoneMaids();
        Due.is("see(256, 0)", x.see(256, 0), -2);
        Due.is("see(-2, 0)", x.see(-2, 0), -2);
        Due.is("see(0, -1)", x.see(0, -1), -2);
        Due.is("see(0, 256)", x.see(0, 256), -2);
        for (int i = 1; i <= 5; i++) Due.is("see " + i, x.see(i, 255), i);
        Due.is("a sixth", x.see(0, 0), -4);
        Due.is("a sixth that is bad", x.see(0, 256), -2);
        Due.is("count(3)", x.count(3), 5);
        Due.is("see(-1, 999)", x.see(-1, 999), 0);
        Due.is("count(3), none", x.count(3), 0);
        Due.is("see(255, 0)", x.see(255, 0), 1);
        Due.is("see(-1, -1)", x.see(-1, -1), 0);
    }

    private static void can() {
        MilestoneMaids x = new MilestoneMaids();
        x.maid(0, 5);
        x.maid(2, 0);
        x.maid(5, 0);
        Due.is("can(0, 0), nothing seen", x.can(0, 0), 10);
        Due.is("can(0, 1), nothing seen", x.can(0, 1), 0);
        x.see(0, 2);
        Due.is("can(0, 0)", x.can(0, 0), 2);
        Due.is("can(0, 1)", x.can(0, 1), 1);
        Due.is("can(1, 0)", x.can(1, 0), 0);
        Due.is("can(1, 1)", x.can(1, 1), -5);
        x.see(2, 0);
        Due.is("can(0, 0) by two", x.can(0, 0), 2);
        x.see(3, 2);
        Due.is("can(0, 0) by three", x.can(0, 0), 0);
        x.see(-1, 0);
        x.see(1, 8);
        Due.is("can(2, 0): 3", x.can(2, 0), 1);
        Due.is("can(2, 1): 3", x.can(2, 1), 3);
        x.see(-1, 0);
        x.see(1, 2);
        Due.is("can(2, 0): 1 and 9", x.can(2, 0), 2);
        Due.is("can(1, 0): all", x.can(1, 0), 10);
        Due.way(x, "deaf 1 v<4|d=1");
        Due.is("can(2, 0): 9, for she would be heeded", x.can(2, 0), 1);
        Due.is("can(2, 1): 9", x.can(2, 1), 9);
        Due.is("can(1, 1)", x.can(1, 1), 4);
        x.pass(1);
        Due.is("can(1, 0) on a day when none is heeded", x.can(1, 0), 0);
        x.pass(1);
        Due.is("can(1, 0) on the next day", x.can(1, 0), 6);
        x.lamp(1, true);
        Due.is("can(1, 0) with her lamp out", x.can(1, 0), 0);
        Due.is("can(3, 0)", x.can(3, 0), -1);
        Due.is("can(-1, 0)", x.can(-1, 0), -1);
        Due.is("can(0, 2)", x.can(0, 2), -1);
        Due.is("can(0, -1)", x.can(0, -1), -1);
        Due.is("her v stays", x.of(2, 1), 0);
    }

    private static void who() {
        MilestoneMaids x = new MilestoneMaids();
        Due.is("who(), no maids", x.who(), 0);
        x.maid(0, 1);
        x.maid(1, 1);
        x.maid(5, 1);
        x.maid(0, 9);
        Due.is("who(), nothing seen", x.who(), 15);
        x.see(1, 3);
        Due.is("who()", x.who(), 11);
        x.see(2, 2);
        Due.is("who() by two", x.who(), 2);
        x.lamp(1, true);
        Due.is("who(), her lamp is out", x.who(), 0);
        x.see(-1, 0);
        x.see(7, 7);
        Due.is("who(), as they come", x.who(), 2);
    }

    private static void when() {
        MilestoneMaids x = new MilestoneMaids();
        x.maid(6, 0);
        x.maid(1, 0);
        x.row(0, 2, 5);
        x.row(0, 3, 5);
        x.see(0, 5);
        Due.is("when(0, 0)", x.when(0, 0), 10);
        Due.is("when(0, 1)", x.when(0, 1), 2);
        Due.is("when(1, 0)", x.when(1, 0), 0);
        Due.is("when(1, 1)", x.when(1, 1), -5);
        x.pass(3);
        Due.is("when(0, 1) on such a day", x.when(0, 1), 0);
        x.pass(1);
        Due.is("when(0, 1) behind it", x.when(0, 1), 2);
        x.see(-1, 0);
        Due.is("when(1, 0), nothing seen", x.when(1, 0), 20);
        Due.is("when(1, 1), nothing seen", x.when(1, 1), 0);
        x.see(0, 1);
        Due.way(x, "deaf 1 d<9&l=1");
        Due.is("when(1, 0), heeded on two days", x.when(1, 0), 2);
        Due.is("when(1, 1), heeded on day 9", x.when(1, 1), 5);
        Due.is("when(2, 0)", x.when(2, 0), -1);
        Due.is("when(-1, 0)", x.when(-1, 0), -1);
        Due.is("when(0, 2)", x.when(0, 2), -1);
        Due.is("when(0, -1)", x.when(0, -1), -1);
    }

    private static void odds() {
        MilestoneMaids x = new MilestoneMaids();
        Due.is("odds, no maids", x.odds(0, 0, 1), MilestoneMaids.NO);
        x.maid(1, 0);
        Due.is("odds(0, 0, 0) of one maid", x.odds(0, 0, 0), 1);
        Due.is("odds(0, 1, 0) of one maid", x.odds(0, 1, 0), 0);
        x.maid(1, 0);
        x.maid(1, 1);
        x.maid(1, 2);
        Due.is("odds(0, 7, 0)", x.odds(0, 7, 0), 1);
        Due.is("odds(0, 7, 1)", x.odds(0, 7, 1), 2);
        Due.is("odds(0, 6, 0)", x.odds(0, 6, 0), 0);
        Due.is("odds(0, 5, 0)", x.odds(0, 5, 0), 1);
        Due.is("odds(0, 5, 1)", x.odds(0, 5, 1), 4);
        Due.is("odds(0, 0, 0)", x.odds(0, 0, 0), 0);
        Due.is("odds(0, 0, 1)", x.odds(0, 0, 1), 1);
        Due.is("odds(7, 7, 0)", x.odds(7, 7, 0), 1);
        Due.is("odds(7, 7, 1)", x.odds(7, 7, 1), 1);
        x.lamp(3, true);
        Due.is("one lamp is out: 2 above", x.odds(0, 3, 0), 3);
        Due.is("one lamp is out: 4 below", x.odds(0, 3, 1), 4);
        Due.is("odds(256, 0, 0)", x.odds(256, 0, 0), MilestoneMaids.NO);
        Due.is("odds(0, -1, 0)", x.odds(0, -1, 0), MilestoneMaids.NO);
        Due.is("odds(0, 0, 2)", x.odds(0, 0, 2), MilestoneMaids.NO);
        Due.is("odds(0, 0, -1)", x.odds(0, 0, -1), MilestoneMaids.NO);
        Due.is("the lamps stay", x.told(2), 8);
        MilestoneMaids first = new MilestoneMaids();
        first.maid(1, 0);
        first.maid(2, 0);
        first.maid(2, 0);
        Due.is("the first one's lamp is out: one of three", first.odds(0, 0, 1), 3);
    }

    private static void mean() {
        MilestoneMaids x = new MilestoneMaids();
        Due.is("mean, no pilgrims", x.mean(0), MilestoneMaids.NO);
        x.pilgrim(0);
        Due.is("mean(0) of none", x.mean(0), 0);
        Due.is("mean(1) of none", x.mean(1), 1);
        x.pilgrim(7);
        Due.is("mean(0)", x.mean(0), 3);
        Due.is("mean(1)", x.mean(1), 2);
        x.pilgrim(0xE0);
        Due.is("mean(0) of six by three", x.mean(0), 2);
        Due.is("mean(1) of six by three", x.mean(1), 1);
        x.pilgrim(255);
        Due.is("mean(0) of 14 by four", x.mean(0), 7);
        Due.is("mean(1) of 14 by four", x.mean(1), 2);
        x.mark(0, 31);
        x.mark(3, 1);
        Due.is("mean(0) of 12 by four, the first with five", x.mean(0), 3);
        x.pilgrim(1);
        Due.is("mean(0) of 13 by five", x.mean(0), 13);
        Due.is("mean(1) of 13 by five", x.mean(1), 5);
        Due.is("mean(2)", x.mean(2), MilestoneMaids.NO);
        Due.is("mean(-1)", x.mean(-1), MilestoneMaids.NO);
    }
}
