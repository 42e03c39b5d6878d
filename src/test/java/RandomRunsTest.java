import java.util.Random;

/** Runs of 512 calls drawn by fixed seeds, each answer against the model's. */
public final class RandomRunsTest {
    private static final int RUNS = 1200, CALLS = 512;

    private final Random random;
    private final int run;
    private final MilestoneMaids x = new MilestoneMaids();
    private final Model m = new Model();
    private int calls = 0;

    private RandomRunsTest(int run) {
        this.run = run;
        random = new Random(run);
    }

    public static void main(String[] args) {
        for (int run = 0; run < RUNS && Due.wrong() == 0; run++) new RandomRunsTest(run).go();
        Due.end("RandomRunsTest");
    }

    private void due(String call, long got, long want) {
        calls++;
        Due.is("run " + run + ", call " + calls + ": " + call, got, want);
    }

    private int from(int least, int most) {
        return least + random.nextInt(most - least + 1);
    }

    /** Mostly from the range, now and then beside it or far off. */
    private int near(int least, int most) {
        int far = random.nextInt(120);
        if (far == 0) return Integer.MIN_VALUE;
        if (far == 1) return Integer.MAX_VALUE;
        if (far < 6) return least - 1;
        if (far < 11) return most + 1;
        return from(least, most);
    }

    private int marks() {
        return near(0, 255);
    }

    private int maidNumber() {
        return near(0, Math.max(0, m.now.maids.size() - 1));
    }

    private int pilgrimNumber() {
        return near(0, Math.max(0, m.now.walkers.size() - 1));
    }

    private void go() {
        int people = from(0, 12);
        for (int i = 0; i < people; i++) people();
        while (calls < CALLS && Due.wrong() == 0) {
            switch (random.nextInt(12)) {
                case 0 -> people();
                case 1, 2 -> changes();
                case 3 -> ways();
                case 4, 5 -> asks();
                case 6, 7 -> throughs();
                case 8 -> seen();
                case 9 -> plans();
                case 10 -> acts();
                default -> tapes();
            }
        }
    }

    private void people() {
        if (random.nextInt(3) > 0) {
            int kind = near(0, 6);
            int v = near(0, 9);
            due("maid(" + kind + ", " + v + ")", x.maid(kind, v), m.maid(kind, v));
        } else {
            int a = marks();
            due("pilgrim(" + a + ")", x.pilgrim(a), m.pilgrim(a));
        }
    }

    private void changes() {
        int maid = maidNumber();
        int pilgrim = pilgrimNumber();
        int a = marks();
        int n = near(0, 9);
        int part = near(0, 3);
        int days = random.nextInt(4) == 0 ? near(0, 60) : from(0, 3);
        boolean isOut = random.nextInt(3) == 0;
        switch (random.nextInt(8)) {
            case 0 -> due("mark(" + pilgrim + ", " + a + ")", x.mark(pilgrim, a), m.mark(pilgrim, a));
            case 1 -> due("start(" + pilgrim + ")", x.start(pilgrim), m.start(pilgrim));
            case 2 -> due("lamp(" + maid + ", " + isOut + ")", x.lamp(maid, isOut), m.lamp(maid, isOut));
            case 3, 4 -> due("row(" + maid + ", " + part + ", " + n + ")", x.row(maid, part, n), m.row(maid, part, n));
            case 5 -> due("pass(" + days + ")", x.pass(days), m.pass(days));
            case 6 -> {
                if (random.nextInt(3) == 0) due("image()", x.image(), m.image());
            }
            default -> {
                if (random.nextInt(3) == 0) due("undo()", x.undo(), m.undo());
            }
        }
    }

    private void ways() {
        if (random.nextInt(8) > 0) {
            int sign = random.nextInt(6) == 0 ? near(0, 127) : "heedaf many;|&!()lkvmfd<=>019".charAt(random.nextInt(29));
            due("feed(" + sign + ")", x.feed(sign), m.feed(sign));
            return;
        }
        String text = new WayTexts(random).text();
        if (random.nextInt(3) > 0) due("way()", x.way(), m.way());
        for (int i = 0; i < text.length() && calls < CALLS - 1; i++) {
            int sign = text.charAt(i);
            due("feed(" + sign + ")", x.feed(sign), m.feed(sign));
        }
        due("way() of " + text, x.way(), m.way());
    }

    private void asks() {
        int maid = maidNumber();
        int pilgrim = pilgrimNumber();
        int a = marks();
        int what = near(0, 3);
        int told = near(0, 5);
        int n = near(0, 60);
        int side = near(0, 1);
        int asked = random.nextInt(3) == 0 ? near(0, 26) : random.nextBoolean() ? 10 + pilgrim : 20 + pilgrim;
        switch (random.nextInt(6)) {
            case 0 -> due("of(" + maid + ", " + what + ")", x.of(maid, what), m.of(maid, what));
            case 1 -> due("at(" + pilgrim + ", " + what + ")", x.at(pilgrim, what), m.at(pilgrim, what));
            case 2 -> due("passes(" + maid + ", " + side + ", " + a + ")", x.passes(maid, side, a), m.passes(maid, side, a));
            case 3 -> due("told(" + told + ")", x.told(told), m.told(told));
            case 4 -> due("on(" + n + ", " + asked + ")", x.on(n, asked), m.on(n, asked));
            default -> due("count(" + (told + 2) + ")", x.count(told + 2), m.count(told + 2));
        }
    }

    private void throughs() {
        int a = marks();
        int b = random.nextInt(3) > 0 ? reached(a) : marks();
        int k = near(-1, 5);
        int side = near(0, 1);
        switch (random.nextInt(7)) {
            case 0 -> due("through(" + a + ")", x.through(a), m.through(a));
            case 1 -> due("before(" + b + ", " + side + ")", x.before(b, side), m.before(b, side));
            case 2 -> due("order(" + a + ", " + b + ", " + k + ")", x.order(a, b, k), m.order(a, b, k));
            case 3, 4 -> due("doused(" + a + ", " + b + ")", x.doused(a, b), m.doused(a, b));
            case 5 -> due("odds(" + a + ", " + b + ", " + side + ")", x.odds(a, b, side), m.odds(a, b, side));
            default -> due("mean(" + side + ")", x.mean(side), m.mean(side));
        }
    }

    /** Marks that a comes to when some of the lamps are out. */
    private int reached(int a) {
        int to = a;
        for (Model.Maiden each : m.now.maids) {
            if (a >= 0 && a < 256 && random.nextInt(4) > 0) to = m.now.passed(each, each.v, to, m.now.day);
        }
        return to;
    }

    private void seen() {
        int maid = maidNumber();
        int a = random.nextInt(8) == 0 ? -1 : marks();
        int b = m.passes(maid, 1, a) >= 0 && random.nextInt(4) > 0 ? m.passes(maid, 1, a) : marks();
        int side = near(0, 1);
        switch (random.nextInt(7)) {
            case 0, 1 -> due("see(" + a + ", " + b + ")", x.see(a, b), m.see(a, b));
            case 2 -> due("see(-1, " + b + ")", x.see(-1, b), m.see(-1, b));
            case 3 -> due("who()", x.who(), m.who());
            case 4 -> due("when(" + maid + ", " + side + ")", x.when(maid, side), m.when(maid, side));
            default -> due("can(" + maid + ", " + side + ")", x.can(maid, side), m.can(maid, side));
        }
    }

    private void plans() {
        int what = random.nextInt(3) == 0 ? 0 : random.nextInt(12) == 0 ? -1 : near(0, 3);
        int n = what == 3 ? pilgrimNumber() : maidNumber();
        int pilgrim = random.nextInt(12) == 0 ? -1 : pilgrimNumber();
        int a = m.at(pilgrim, 0) >= 0 && random.nextInt(4) > 0 ? m.at(pilgrim, 0) : marks();
        int side = near(0, 1);
        switch (random.nextInt(6)) {
            case 0, 1 -> due("plan(" + what + ", " + n + ")", x.plan(what, n), m.plan(what, n));
            case 2, 3 -> due("ends(" + side + ")", x.ends(side), m.ends(side));
            case 4 -> due("book(" + pilgrim + ", " + a + ")", x.book(pilgrim, a), m.book(pilgrim, a));
            default -> due("looked()", x.looked(), m.looked());
        }
    }

    private void acts() {
        int maid = maidNumber();
        int act = near(0, 2);
        int far = random.nextInt(3) == 0 ? random.nextInt() : from(-20, 20);
        int k = near(0, 6);
        int i = near(0, 21);
        switch (random.nextInt(5)) {
            case 0, 1 -> due("act(" + maid + ", " + act + ", " + far + ")", x.act(maid, act, far), m.act(maid, act, far));
            case 2 -> due("trace(" + i % 12 + ")", x.trace(i % 12), m.trace(i % 12));
            case 3 -> due("count(7)", x.count(7), m.count(7));
            default -> due("taken(" + maid + ", " + k + ")", x.taken(maid, k), m.taken(maid, k));
        }
    }

    private void tapes() {
        int tape = near(0, 5);
        int other = random.nextBoolean() ? tape : near(0, 5);
        int sort = random.nextInt(3) == 0 ? 1 : near(-1, 4);
        int n = random.nextBoolean() ? from(0, 8) : near(0, 60);
        int i = random.nextBoolean() ? from(0, 6) : near(0, 60);
        int j = random.nextBoolean() ? from(0, 6) : near(0, 60);
        long v = random.nextBoolean() ? from(0, 255) : random.nextLong();
        switch (random.nextInt(8)) {
            case 0 -> due("tape(" + tape + ", " + sort + ", " + n + ")", x.tape(tape, sort, n), m.tape(tape, sort, n));
            case 1, 2 -> due("item(" + tape + ", " + i + ", " + v + ")", x.item(tape, i, v), m.item(tape, i, v));
            case 3 -> due("read(" + tape + ", " + i + ")", x.read(tape, i), m.read(tape, i));
            case 4 -> due("shift(" + tape + ", " + i + ", " + other + ", " + j + ", " + n % 20 + ")",
                x.shift(tape, i, other, j, n % 20), m.shift(tape, i, other, j, n % 20));
            case 5 -> tellMarks(tape, i);
            default -> due("judge(" + tape + ", " + i + ")", x.judge(tape, i), m.judge(tape, i));
        }
    }

    /** Tells the marks as they are, or nearly so, from place i on, and has them judged. */
    private void tellMarks(int tape, int i) {
        int n = Math.max(0, Math.min(60, i)) + from(0, 7);
        due("tape(" + tape + ", 1, " + n + ")", x.tape(tape, 1, n), m.tape(tape, 1, n));
        for (int p = 0; p < m.now.walkers.size(); p++) {
            int at = i + p;
            long v = m.now.walkers.get(p).marks + (random.nextInt(10) == 0 ? 1 : 0);
            due("item(" + tape + ", " + at + ", " + v + ")", x.item(tape, at, v), m.item(tape, at, v));
        }
        due("judge(" + tape + ", " + i + ")", x.judge(tape, i), m.judge(tape, i));
    }
}
