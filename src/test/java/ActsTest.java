/** Promises 33 to 35: act, trace, taken. */
public final class ActsTest {
    public static void main(String[] args) {
        acts();
        everyKind();
        refused();
        taken();
        Due.end("ActsTest");
    }

    private static MilestoneMaids maidsOf(int... kinds) {
        MilestoneMaids x = new MilestoneMaids();
        for (int i = 0; i < kinds.length; i++) x.maid(kinds[i], 3);
        return x;
    }

    private static void act(MilestoneMaids x, int maid, int act, int arg, int due, int... bodies) {
        String call = "act(" + maid + ", " + act + ", " + arg + ")";
        Due.is(call, x.act(maid, act, arg), due);
        Due.is(call + ": ran", x.count(7), bodies.length);
        for (int i = 0; i < bodies.length; i++) Due.is(call + ": body " + i, x.trace(i), bodies[i]);
        Due.is(call + ": behind the trace", x.trace(bodies.length), -1);
        Due.is(call + ": ahead of the trace", x.trace(-1), -1);
    }

    private static void acts() {
        // Each maid's number is 1, her v 3.
        MilestoneMaids x = maidsOf(0, 0);
        act(x, 1, 0, 10, 11, 10);
        act(x, 1, 1, 10, 8, 11, 10);
        act(x, 1, 2, 10, 16, 12, 11, 10);
        x = maidsOf(0, 1);
        act(x, 1, 0, 10, 11, 10);
        act(x, 1, 1, 10, 8 ^ 6, 20, 11, 10);
        act(x, 1, 2, 10, (8 ^ 6) * 2, 12, 20, 11, 10);
        x = maidsOf(0, 2);
        act(x, 1, 0, 10, 31, 30, 10);
        act(x, 1, 1, 10, 28, 11, 30, 10);
        act(x, 1, 2, 10, 56, 12, 11, 30, 10);
        x = maidsOf(0, 3);
        act(x, 1, 0, 10, 11, 10);
        act(x, 1, 1, 10, 8, 11, 10);
        act(x, 1, 2, 10, 16 - 1, 40, 12, 11, 10, 11, 10);
        x = maidsOf(0, 4);
        act(x, 1, 0, 10, -11, 50, 10);
        act(x, 1, 1, 10, -15 ^ 6, 51, 20, 11, 50, 10);
        act(x, 1, 2, 10, (-15 ^ 6) * 2, 12, 51, 20, 11, 50, 10);
        x = maidsOf(0, 5);
        act(x, 1, 0, 10, 31, 30, 10);
        act(x, 1, 1, 10, 28, 11, 30, 10);
        act(x, 1, 2, 10, 50, 60, 12, 11, 30, 10);
        x = maidsOf(0, 6);
        act(x, 1, 0, 10, 11 ^ 3, 71, 10);
        act(x, 1, 1, 10, 5 + 3, 70, 11, 71, 10, 10);
        act(x, 1, 2, 10, 16 - 2 + 3, 40, 12, 70, 11, 71, 10, 10, 70, 11, 71, 10, 10);
    }

    /** Every KIND and ACT by Java's own inheritance, with x that wrap, too. */
    private static void everyKind() {
        int[] xs = {0, 1, -1, 7, 1000000007, Integer.MAX_VALUE, Integer.MIN_VALUE, 715827883};
        for (int kind = 0; kind < 7; kind++) {
            for (int v = 0; v < 10; v++) {
                MilestoneMaids x = new MilestoneMaids();
                Model m = new Model();
                for (int i = 0; i < 6; i++) {
                    x.maid(kind, v);
                    m.maid(kind, v);
                }
                for (int i = 0; i < xs.length * 3; i++) {
                    int arg = xs[i / 3];
                    Due.is("kind " + kind + ", v " + v + ": act(" + i % 6 + ", " + i % 3 + ", " + arg + ")",
                        x.act(i % 6, i % 3, arg), m.act(i % 6, i % 3, arg));
                }
            }
        }
    }

    private static void refused() {
        MilestoneMaids x = maidsOf(1);
        x.act(0, 1, 5);
        Due.is("act(1, 0, 5)", x.act(1, 0, 5), 0);
        Due.is("no trace then", x.count(7), 0);
        Due.is("no body then", x.trace(0), -1);
        x.act(0, 1, 5);
        Due.is("act(0, 3, 5)", x.act(0, 3, 5), 0);
        Due.is("no trace by no act", x.count(7), 0);
        x.act(0, 1, 5);
        Due.is("act(0, -1, 5)", x.act(0, -1, 5), 0);
        Due.is("no trace by no act", x.trace(0), -1);
        Due.is("act(-1, 0, 5)", x.act(-1, 0, 5), 0);
        Due.is("trace(19)", x.trace(19), -1);
        Due.is("trace(20)", x.trace(20), -1);
    }

    private static void taken() {
        MilestoneMaids x = maidsOf(1, 2, 3, 4, 5, 6);
        MilestoneMaids y = maidsOf(0);
        String[] under = {"0", "01", "02", "03", "014", "025", "036"};
        for (int k = 0; k < 7; k++) {
            for (int kind = 1; kind < 7; kind++) {
                boolean is = under[kind].indexOf('0' + k) >= 0;
                Due.is("taken(" + (kind - 1) + ", " + k + ")", x.taken(kind - 1, k), is ? kind : -12);
            }
            Due.is("a MAID taken for " + k, y.taken(0, k), k == 0 ? 0 : -12);
        }
        Due.is("taken(6, -1)", x.taken(6, -1), -2);
        Due.is("taken(0, 7)", x.taken(0, 7), -2);
        Due.is("taken(6, 0)", x.taken(6, 0), -11);
        Due.is("taken(-1, 0)", x.taken(-1, 0), -11);
    }
}
