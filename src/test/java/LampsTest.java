/** Promises 16 to 19: through, before, order, doused. */
public final class LampsTest {
    public static void main(String[] args) {
        through();
        before();
        order();
        orderByDefinition();
        doused();
        Due.end("LampsTest");
    }

    private static MilestoneMaids threeMaids() {
        MilestoneMaids x = new MilestoneMaids();
        x.maid(1, 0);
        x.maid(2, 0);
        x.maid(3, 0);
        return x;
    }

    private static void through() {
        MilestoneMaids x = threeMaids();
        Due.is("through(0)", x.through(0), 0);
        Due.is("through(6)", x.through(6), 12);
        Due.is("through(-1)", x.through(-1), -2);
        Due.is("through(256)", x.through(256), -2);
        x.lamp(2, true);
        Due.is("a lamp is out", x.through(6), 14);
        Due.way(x, "many 0;deaf 1 l=1&m=3");
        Due.is("nobody turns back, one is deaf", x.through(6), 7);
        Due.is("heeded by the marks that come to her", x.through(7), 7);
        Due.is("heeded by two marks", x.through(2), 6);
        MilestoneMaids y = new MilestoneMaids();
        y.maid(6, 0);
        y.maid(6, 0);
        y.row(0, 1, 1);
        y.row(1, 1, 8);
        y.row(1, 2, 4);
        y.pass(1);
        Due.is("all on this day", y.through(0), 8);
    }

    private static void before() {
        MilestoneMaids x = threeMaids();
        Due.is("before(12, 0)", x.before(12, 0), 2);
        Due.is("before(12, 1)", x.before(12, 1), 6);
        Due.is("before(1, 0)", x.before(1, 0), 0);
        Due.is("before(1, 1)", x.before(1, 1), -5);
        Due.is("before(252, 1)", x.before(252, 1), 126);
        x.lamp(0, true);
        Due.is("before(0, 0)", x.before(0, 0), 9);
        Due.is("before(0, 1)", x.before(0, 1), 0);
        Due.is("before(256, 2)", x.before(256, 2), -1);
        Due.is("before(0, -1)", x.before(0, -1), -1);
        Due.is("before(256, 0)", x.before(256, 0), -2);
        Due.is("before(-1, 1)", x.before(-1, 1), -2);
        MilestoneMaids none = new MilestoneMaids();
        Due.is("no maids: before(255, 1)", none.before(255, 1), 255);
    }

    private static void order() {
        MilestoneMaids x = threeMaids();
        // 0 becomes 1 by the orders in which the wiper is ahead of the setter, and she behind the turner.
        Due.is("order(0, 1, -1)", x.order(0, 1, -1), 0);
        Due.is("order(0, 1, 0)", x.order(0, 1, 0), 1);
        Due.is("order(0, 1, 1)", x.order(0, 1, 1), 2);
        Due.is("order(0, 1, 2)", x.order(0, 1, 2), 0);
        Due.is("order(0, 1, 3)", x.order(0, 1, 3), -5);
        Due.is("order(0, 0, 0)", x.order(0, 0, 0), 0);
        Due.is("order(0, 0, 1)", x.order(0, 0, 1), 1);
        Due.is("order(0, 0, 2)", x.order(0, 0, 2), 2);
        Due.is("order(0, 255, -1)", x.order(0, 255, -1), 7);
        Due.is("order(0, 255, 2)", x.order(0, 255, 2), 0);
        Due.is("order(0, 255, 0)", x.order(0, 255, 0), 1);
        Due.is("order(256, 0, -2)", x.order(256, 0, -2), -1);
        Due.is("order(0, 0, 6)", x.order(0, 0, 6), -1);
        Due.is("order(256, 0, 5)", x.order(256, 0, 5), -2);
        Due.is("order(0, -1, 0)", x.order(0, -1, 0), -2);
        Due.is("order(0, 0, 5)", x.order(0, 0, 5), -5);
        MilestoneMaids none = new MilestoneMaids();
        Due.is("no maids: order(255, 0, -1)", none.order(255, 0, -1), 8);
        Due.is("no maids: order(255, 0, 0)", none.order(255, 0, 0), -5);
        // Her number stays hers wherever she stands.
        MilestoneMaids y = new MilestoneMaids();
        y.maid(2, 0);
        y.maid(1, 0);
        Due.way(y, "deaf 1 l=1&m=0");
        Due.is("order(0, 1, -1)", y.order(0, 1, -1), 1);
        Due.is("order(1, 3, 0)", y.order(1, 3, 0), 0);
        Due.is("order(1, 3, 1)", y.order(1, 3, 1), 1);
        Due.is("order(1, 2, 0)", y.order(1, 2, 0), 1);
    }

    /** The first row of numbers among all by which the marks come nearest, with six of six kinds. */
    private static void orderByDefinition() {
        MilestoneMaids x = new MilestoneMaids();
        Model m = new Model();
        for (int i = 0; i < 6; i++) {
            x.maid((i * 5 + 1) % 7, 9 - i);
            m.maid((i * 5 + 1) % 7, 9 - i);
        }
        for (int a = 0; a < 256; a += 51) {
            for (int b = 3; b < 256; b += 36) {
                for (int k = -1; k < 6; k++) {
                    Due.is("order(" + a + ", " + b + ", " + k + ")", x.order(a, b, k), m.order(a, b, k));
                }
            }
        }
    }

    private static MilestoneMaids turners() {
        MilestoneMaids x = new MilestoneMaids();
        x.maid(2, 0);
        x.maid(2, 0);
        return x;
    }

    private static MilestoneMaids setters() {
        MilestoneMaids x = new MilestoneMaids();
        for (int v = 0; v < 6; v++) x.maid(1, v);
        return x;
    }

    private static void doused() {
        MilestoneMaids x = new MilestoneMaids();
        x.maid(1, 0);
        x.maid(1, 0);
        x.maid(0, 0);
        x.maid(0, 3);
        Due.is("none need be out", x.doused(0, 8), 0);
        Due.is("one, of several the least", x.doused(0, 9), 4);
        Due.is("two", x.doused(0, 1), 12);
        Due.is("one", x.doused(0, 0), 8);
        Due.is("not so", x.doused(0, 2), -5);
        x.lamp(3, true);
        Due.is("one that is out already is not needed", x.doused(0, 0), 0);
        Due.is("out already", x.doused(0, 8), -5);
        Due.is("out already, another", x.doused(0, 1), 4);
        Due.is("doused(256, 0)", x.doused(256, 0), -2);
        Due.is("doused(0, -1)", x.doused(0, -1), -2);
        Due.is("the lamps stay", x.told(2), 8);
        Due.is("of several the least", turners().doused(1, 2), 1);
        Due.is("all six", setters().doused(0, 0), 63);
        // Two with greater bits are fewer than three with lesser.
        MilestoneMaids y = new MilestoneMaids();
        y.maid(1, 0);
        y.maid(1, 0);
        y.maid(1, 0);
        y.maid(2, 0);
        y.maid(3, 0);
        y.maid(1, 1);
        Due.is("three", y.doused(0, 3), 24);
        Due.is("two of them", y.doused(0, 1), 56);
        Due.is("the fewest ahead of the least", y.doused(0, 0), 32);
    }
}
