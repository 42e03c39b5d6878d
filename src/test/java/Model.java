import java.util.ArrayList;
import java.util.Arrays;
import java.util.List;
import java.util.function.Predicate;

/**
 * The document written a second time, in another manner and with the whole Java library: the answers
 * that are due in runs that nobody has worked out by hand. It shares no code with the class.
 */
final class Model {
    static final long NO = Long.MIN_VALUE;

    record Facts(int number, int kind, int v, int marks, int day) {
        int of(char letter) {
            return switch (letter) {
                case 'l' -> number;
                case 'k' -> kind;
                case 'v' -> v;
                case 'm' -> Integer.toBinaryString(marks).replace("0", "").length();
                case 'f' -> marks % 10;
                default -> day % 10;
            };
        }
    }

    record Clause(String word, int n, Predicate<Facts> holds) { }

    static final class Maiden {
        int number;
        int kind;
        int v;
        boolean out;
        int[] row = new int[4];

        Maiden(int number, int kind, int v) {
            this.number = number;
            this.kind = kind;
            this.v = v;
        }

        Maiden copy() {
            Maiden m = new Maiden(number, kind, v);
            m.out = out;
            m.row = row.clone();
            return m;
        }
    }

    static final class Walker {
        int marks;
        int place;
        boolean back;

        Walker copy() {
            Walker w = new Walker();
            w.marks = marks;
            w.place = place;
            w.back = back;
            return w;
        }
    }

    static final class World {
        List<Maiden> maids = new ArrayList<>();
        List<Walker> walkers = new ArrayList<>();
        int day;
        List<int[]> seen = new ArrayList<>();
        List<int[]> plan = new ArrayList<>();
        List<int[]> book = new ArrayList<>();
        List<Clause> way = List.of();

        World copy() {
            World w = new World();
            maids.forEach(m -> w.maids.add(m.copy()));
            walkers.forEach(p -> w.walkers.add(p.copy()));
            w.day = day;
            w.seen.addAll(seen);
            w.plan.addAll(plan);
            w.book.addAll(book);
            w.way = way;
            return w;
        }

        int many() {
            int n = 9;
            for (Clause c : way) if (c.word().equals("many")) n = c.n();
            return n;
        }

        int said(Maiden m, int v, int marks, int day) {
            boolean[] bits = new boolean[8];
            for (int i = 0; i < 8; i++) bits[i] = (marks >> i) % 2 == 1;
            switch (m.kind) {
                case 0 -> bits[v % 8] = !bits[v % 8];
                case 1 -> bits[v % 8] = true;
                case 2 -> bits = shifted(bits, 1);
                case 3 -> wipe(bits);
                case 4 -> {
                    bits[v % 8] = true;
                    bits[v % 8 == 7 ? 0 : v % 8 + 1] = true;
                }
                case 5 -> bits = shifted(bits, v);
                default -> {
                    wipe(bits);
                    int told = m.row[day % 4];
                    for (int i = 0; i < 4; i++) if (told / (1 << i) % 2 == 1) bits[i] = !bits[i];
                }
            }
            int sum = 0;
            for (int i = 7; i >= 0; i--) sum = sum * 2 + (bits[i] ? 1 : 0);
            return sum;
        }

        private static boolean[] shifted(boolean[] bits, int n) {
            boolean[] to = new boolean[8];
            for (int i = 0; i < 8; i++) to[(i + n) % 8] = bits[i];
            return to;
        }

        private static void wipe(boolean[] bits) {
            for (int i = 0; i < 8; i++) {
                if (bits[i]) {
                    bits[i] = false;
                    return;
                }
            }
        }

        int passed(Maiden m, int v, int marks, int day) {
            Facts facts = new Facts(m.number, m.kind, v, marks, day);
            int heeds = 1;
            int deafs = 0;
            for (Clause c : way) {
                if (c.word().equals("heed") && c.holds().test(facts)) heeds += c.n();
                if (c.word().equals("deaf") && c.holds().test(facts)) deafs += c.n();
            }
            return heeds > deafs && !m.out ? said(m, v, marks, day) : marks;
        }

        void goDay() {
            for (Walker w : walkers) {
                if (w.back || w.place >= maids.size()) continue;
                Maiden m = maids.get(w.place);
                w.marks = passed(m, m.v, w.marks, day);
                if (Integer.bitCount(w.marks) >= many()) w.back = true;
                else w.place += 1;
            }
            day += 1;
        }

        int through(int marks) {
            return throughRow(marks, maids);
        }

        int throughRow(int marks, List<Maiden> row) {
            int to = marks;
            for (Maiden m : row) to = passed(m, m.v, to, day);
            return to;
        }

        int changes(Maiden m) {
            int n = 0;
            for (int marks = 0; marks < 256; marks++) if (passed(m, m.v, marks, day) != marks) n++;
            return n;
        }

        boolean asSeen(Maiden m, int v, int day) {
            return seen.stream().allMatch(ab -> passed(m, v, ab[0], day) == ab[1]);
        }

        int in() {
            return (int) walkers.stream().filter(w -> w.place >= maids.size()).count();
        }

        int back() {
            return (int) walkers.stream().filter(w -> w.back).count();
        }
    }

    World now = new World();
    World image;
    int ways;
    StringBuilder text = new StringBuilder();
    List<Integer> ran = new ArrayList<>();
    Object[] tapes = new Object[6];

    private Maiden maiden(int n) {
        return n >= 0 && n < now.maids.size() ? now.maids.get(n) : null;
    }

    private Walker walker(int n) {
        return n >= 0 && n < now.walkers.size() ? now.walkers.get(n) : null;
    }

    private static boolean within(int n, int least, int most) {
        return n >= least && n <= most;
    }

    private static int bit(boolean b) {
        return b ? 1 : 0;
    }

    int maid(int kind, int v) {
        if (!within(kind, 0, 6)) return -1;
        if (!within(v, 0, 9)) return -2;
        if (now.maids.size() == 6) return -4;
        now.maids.add(new Maiden(now.maids.size(), kind, v));
        return now.maids.size() - 1;
    }

    int pilgrim(int marks) {
        if (!within(marks, 0, 255)) return -2;
        if (now.walkers.size() == 5) return -4;
        Walker w = new Walker();
        w.marks = marks;
        now.walkers.add(w);
        return now.walkers.size() - 1;
    }

    int of(int maid, int what) {
        Maiden m = maiden(maid);
        if (m == null || !within(what, 0, 3)) return -1;
        return new int[] {m.kind, m.v, bit(m.out), now.changes(m)}[what];
    }

    int at(int pilgrim, int what) {
        Walker w = walker(pilgrim);
        if (w == null || !within(what, 0, 3)) return -1;
        if (what < 3) return new int[] {w.marks, w.place, bit(w.back)}[what];
        World later = now.copy();
        Walker same = later.walkers.get(pilgrim);
        while (!same.back && same.place < later.maids.size()) later.goDay();
        return same.back ? -5 : same.marks;
    }

    int passes(int maid, int what, int marks) {
        Maiden m = maiden(maid);
        if (m == null || !within(what, 0, 1)) return -1;
        if (!within(marks, 0, 255)) return -2;
        return what == 0 ? now.said(m, m.v, marks, now.day) : now.passed(m, m.v, marks, now.day);
    }

    int mark(int pilgrim, int marks) {
        Walker w = walker(pilgrim);
        if (w == null) return -1;
        if (!within(marks, 0, 255)) return -2;
        int old = w.marks;
        w.marks = marks;
        return old;
    }

    int start(int pilgrim) {
        Walker w = walker(pilgrim);
        if (w == null) return -1;
        int old = w.place;
        w.place = 0;
        w.back = false;
        return old;
    }

    int lamp(int maid, boolean isOut) {
        Maiden m = maiden(maid);
        if (m == null) return -1;
        int old = bit(m.out);
        m.out = isOut;
        return old;
    }

    int row(int maid, int part, int n) {
        Maiden m = maiden(maid);
        if (m == null || !within(part, 0, 3)) return -1;
        if (!within(n, 0, 9)) return -2;
        if (m.kind != 6) return -3;
        int old = m.row[part];
        m.row[part] = n;
        return old;
    }

    int feed(int sign) {
        if (!within(sign, 0, 127)) return -2;
        if (text.length() == 100) return -4;
        text.append((char) sign);
        return text.length();
    }

    int way() {
        if (ways == 6) return -4;
        String s = text.toString();
        text.setLength(0);
        List<Clause> way = Grammar.wayOf(s);
        if (way == null) return -10 - Grammar.faultOf(s);
        now.way = way;
        return ways++;
    }

    int told(int what) {
        int out = 0;
        int most = -5;
        for (Maiden m : now.maids) {
            if (m.out) out += 1 << m.number;
            if (most < 0 || now.changes(m) > now.changes(now.maids.get(most))) most = m.number;
        }
        if (!within(what, 0, 5)) return -1;
        return new int[] {now.day, now.many(), out, now.in(), now.back(), most}[what];
    }

    int pass(int n) {
        if (!within(n, 0, 60)) return -2;
        if (now.day + n > 9999) return -3;
        for (int i = 0; i < n; i++) now.goDay();
        return now.day;
    }

    int on(int n, int what) {
        Walker ofMarks = within(what, 10, 14) ? walker(what - 10) : null;
        Walker ofPlace = within(what, 20, 24) ? walker(what - 20) : null;
        if (what != 0 && ofMarks == null && ofPlace == null) return -1;
        if (!within(n, 0, 60)) return -2;
        World later = now.copy();
        for (int i = 0; i < n; i++) later.goDay();
        if (what == 0) return later.back();
        return what < 20 ? later.walkers.get(what - 10).marks : later.walkers.get(what - 20).place;
    }

    int through(int marks) {
        return within(marks, 0, 255) ? now.through(marks) : -2;
    }

    int before(int marks, int what) {
        if (!within(what, 0, 1)) return -1;
        if (!within(marks, 0, 255)) return -2;
        List<Integer> from = new ArrayList<>();
        for (int a = 0; a < 256; a++) if (now.through(a) == marks) from.add(a);
        return countOrFirst(from, what);
    }

    private static int countOrFirst(List<Integer> found, int what) {
        if (what == 0) return found.size();
        return found.isEmpty() ? -5 : found.get(0);
    }

    int order(int a, int b, int k) {
        if (!within(k, -1, 5)) return -1;
        if (!within(a, 0, 255) || !within(b, 0, 255)) return -2;
        List<List<Maiden>> rows = new ArrayList<>();
        addRows(new ArrayList<>(), rows);
        int unlike = 99;
        List<Maiden> best = null;
        for (List<Maiden> row : rows) {
            int n = Integer.bitCount(now.throughRow(a, row) ^ b);
            if (n < unlike) {
                unlike = n;
                best = row;
            }
        }
        if (k == -1) return unlike;
        return k < best.size() ? best.get(k).number : -5;
    }

    private void addRows(List<Maiden> row, List<List<Maiden>> rows) {
        if (row.size() == now.maids.size()) rows.add(new ArrayList<>(row));
        for (Maiden m : now.maids) {
            if (row.contains(m)) continue;
            row.add(m);
            addRows(row, rows);
            row.remove(row.size() - 1);
        }
    }

    int doused(int a, int b) {
        if (!within(a, 0, 255) || !within(b, 0, 255)) return -2;
        for (int size = 0; size <= now.maids.size(); size++) {
            for (int bits = 0; bits < 64 && bits < 1 << now.maids.size(); bits++) {
                if (Integer.bitCount(bits) == size && throughWithout(a, bits) == b) return bits;
            }
        }
        return -5;
    }

    private int throughWithout(int a, int bits) {
        World other = now.copy();
        for (Maiden m : other.maids) if ((bits >> m.number) % 2 == 1) m.out = true;
        return other.through(a);
    }

    int see(int a, int b) {
        if (a == -1) {
            now.seen.clear();
            return 0;
        }
        if (!within(a, 0, 255) || !within(b, 0, 255)) return -2;
        if (now.seen.size() == 5) return -4;
        now.seen.add(new int[] {a, b});
        return now.seen.size();
    }

    int can(int maid, int what) {
        Maiden m = maiden(maid);
        if (m == null || !within(what, 0, 1)) return -1;
        List<Integer> vs = new ArrayList<>();
        for (int v = 0; v < 10; v++) if (now.asSeen(m, v, now.day)) vs.add(v);
        return countOrFirst(vs, what);
    }

    int who() {
        int bits = 0;
        for (Maiden m : now.maids) if (now.asSeen(m, m.v, now.day)) bits += 1 << m.number;
        return bits;
    }

    int when(int maid, int what) {
        Maiden m = maiden(maid);
        if (m == null || !within(what, 0, 1)) return -1;
        List<Integer> days = new ArrayList<>();
        for (int d = 0; d < 20; d++) if (now.asSeen(m, m.v, now.day + d)) days.add(d);
        return countOrFirst(days, what);
    }

    long odds(int a, int b, int part) {
        if (!within(a, 0, 255) || !within(b, 0, 255) || !within(part, 0, 1) || now.maids.isEmpty()) return NO;
        int n = 0;
        for (Maiden m : now.maids) if (throughWithout(a, 1 << m.number) == b) n++;
        return fraction(n, now.maids.size(), part);
    }

    long mean(int part) {
        if (!within(part, 0, 1) || now.walkers.isEmpty()) return NO;
        return fraction(now.walkers.stream().mapToInt(w -> Integer.bitCount(w.marks)).sum(), now.walkers.size(), part);
    }

    private static long fraction(int above, int below, int part) {
        int a = above;
        int b = below;
        for (int d = 2; d <= 6; d++) {
            while (a % d == 0 && b % d == 0) {
                a /= d;
                b /= d;
            }
        }
        return part == 0 ? a : b;
    }

    int plan(int what, int n) {
        if (what == -1) {
            now.plan.clear();
            return 0;
        }
        boolean isRow = what == 0 || within(what, 1, 2) && maiden(n) != null || what == 3 && walker(n) != null;
        if (!isRow) return -1;
        if (now.plan.size() == 10) return -4;
        now.plan.add(new int[] {what, n});
        return now.plan.size();
    }

    int ends(int what) {
        if (!within(what, 0, 1)) return -1;
        World later = now.copy();
        for (int[] r : now.plan) {
            if (r[0] == 0) later.goDay();
            else if (r[0] == 3) later.walkers.get(r[1]).back = false;
            else later.maids.get(r[1]).out = r[0] == 1;
        }
        return what == 0 ? later.in() : later.back();
    }

    int book(int pilgrim, int marks) {
        if (pilgrim == -1) {
            now.book.clear();
            return 0;
        }
        if (walker(pilgrim) == null) return -1;
        if (!within(marks, 0, 255)) return -2;
        if (now.book.size() == 8) return -4;
        now.book.add(new int[] {pilgrim, marks});
        return now.book.size();
    }

    int looked() {
        for (int[] r : now.book) if (walker(r[0]).marks != r[1]) return now.book.indexOf(r);
        return -5;
    }

    int judge(int tape, int i) {
        if (!within(tape, 0, 5)) return -1;
        if (tapes[tape] != null && !(tapes[tape] instanceof short[])) return -12;
        if (now.walkers.isEmpty()) return -5;
        if (i < 0 || tapes[tape] == null) return 100;
        short[] row = (short[]) tapes[tape];
        int looked = 0;
        for (Walker w : now.walkers) {
            if ((long) i + looked >= row.length) return 100 + looked;
            if (row[i + looked] != w.marks) return looked;
            looked++;
        }
        return -5;
    }

    int image() {
        image = now.copy();
        return now.maids.size();
    }

    int undo() {
        if (image == null) return -3;
        now = image.copy();
        return now.maids.size();
    }

    int act(int maid, int act, int x) {
        ran.clear();
        Maiden m = maiden(maid);
        if (m == null || !within(act, 0, 2)) return 0;
        Bodies.Maid body = Bodies.of(m.kind);
        body.i = m.number;
        body.v = m.v;
        body.ran = ran;
        return act == 0 ? body.looks(x) : act == 1 ? body.says(x) : body.tells(x);
    }

    int trace(int i) {
        return i >= 0 && i < 20 && i < ran.size() ? ran.get(i) : -1;
    }

    int taken(int maid, int k) {
        if (!within(k, 0, 6)) return -2;
        Maiden m = maiden(maid);
        if (m == null) return -11;
        return Bodies.of(k).getClass().isInstance(Bodies.of(m.kind)) ? m.kind : -12;
    }

    int count(int what) {
        if (!within(what, 0, 7)) return -2;
        return new int[] {now.maids.size(), now.walkers.size(), ways, now.seen.size(), now.plan.size(),
            now.book.size(), text.length(), ran.size()}[what];
    }

    int tape(int tape, int sort, int n) {
        if (!within(tape, 0, 5)) return -1;
        if (!within(sort, -1, 4)) return -2;
        if (sort >= 0 && n > 60) return -2;
        if (sort >= 0 && n < 0) return -14;
        tapes[tape] = switch (sort) {
            case 0 -> new byte[n];
            case 1 -> new short[n];
            case 2 -> new int[n];
            case 3 -> new long[n];
            case 4 -> new boolean[n];
            default -> null;
        };
        return 1;
    }

    int item(int tape, int i, long v) {
        if (!within(tape, 0, 5)) return -1;
        if (tapes[tape] == null) return -11;
        if (!within(i, 0, java.lang.reflect.Array.getLength(tapes[tape]) - 1)) return -13;
        if (tapes[tape] instanceof byte[] b) b[i] = (byte) v;
        if (tapes[tape] instanceof short[] s) s[i] = (short) v;
        if (tapes[tape] instanceof int[] n) n[i] = (int) v;
        if (tapes[tape] instanceof long[] l) l[i] = v;
        if (tapes[tape] instanceof boolean[] z) z[i] = v != 0;
        return 1;
    }

    long read(int tape, int i) {
        if (!within(tape, 0, 5) || tapes[tape] == null) return NO;
        if (!within(i, 0, java.lang.reflect.Array.getLength(tapes[tape]) - 1)) return NO;
        if (tapes[tape] instanceof boolean[] z) return bit(z[i]);
        return java.lang.reflect.Array.getLong(tapes[tape], i);
    }

    int shift(int tape, int i, int other, int j, int n) {
        if (!within(tape, 0, 5) || !within(other, 0, 5)) return -1;
        if (tapes[tape] == null || tapes[other] == null) return -11;
        try {
            System.arraycopy(tapes[tape], i, tapes[other], j, n);
        } catch (ArrayStoreException e) {
            return -12;
        } catch (IndexOutOfBoundsException e) {
            return -13;
        }
        return n;
    }

    /** THE ACTS by Java's own inheritance. */
    static final class Bodies {
        static Maid of(int kind) {
            return Arrays.<Maid>asList(new Maid(), new Setter(), new Turner(), new Wiper(), new Fond(), new Dark(),
                new Told()).get(kind);
        }

        static class Maid {
            int i;
            int v;
            List<Integer> ran;

            int looks(int x) {
                ran.add(10);
                return x + i;
            }

            int says(int x) {
                ran.add(11);
                return looks(x) - v;
            }

            int tells(int x) {
                ran.add(12);
                return says(x) * 2;
            }
        }

        static class Setter extends Maid {
            @Override int says(int x) {
                ran.add(20);
                return super.says(x) ^ 6;
            }
        }

        static class Turner extends Maid {
            @Override int looks(int x) {
                ran.add(30);
                return super.looks(x * 3);
            }
        }

        static class Wiper extends Maid {
            @Override int tells(int x) {
                ran.add(40);
                return super.tells(x) + says(1);
            }
        }

        static class Fond extends Setter {
            @Override int looks(int x) {
                ran.add(50);
                return -super.looks(x);
            }

            @Override int says(int x) {
                ran.add(51);
                return super.says(x + 1);
            }
        }

        static class Dark extends Turner {
            @Override int tells(int x) {
                ran.add(60);
                return super.tells(x - i);
            }
        }

        static class Told extends Wiper {
            @Override int says(int x) {
                ran.add(70);
                return super.says(x) + super.looks(2);
            }

            @Override int looks(int x) {
                ran.add(71);
                return super.looks(x) ^ v;
            }
        }
    }
}
