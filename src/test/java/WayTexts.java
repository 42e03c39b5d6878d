import java.util.Random;

/** Texts that are ways, mostly, drawn at random. */
final class WayTexts {
    private final Random random;

    WayTexts(Random random) {
        this.random = random;
    }

    /** A way, or a way with a sign or two that are put in, left out or other, or cut short. */
    String text() {
        StringBuilder s = new StringBuilder(clauses());
        if (random.nextInt(3) > 0) return s.toString();
        int n = 1 + random.nextInt(2);
        for (int i = 0; i < n && s.length() > 0; i++) {
            int at = random.nextInt(s.length());
            char sign = "heedaf many;|&!()lkvmfd<=>019".charAt(random.nextInt(29));
            switch (random.nextInt(4)) {
                case 0 -> s.insert(at, sign);
                case 1 -> s.deleteCharAt(at);
                case 2 -> s.setCharAt(at, sign);
                default -> s.setLength(at);
            }
        }
        return s.toString();
    }

    private String clauses() {
        int n = random.nextInt(4) == 0 ? 1 + random.nextInt(11) : 1 + random.nextInt(4);
        StringBuilder s = new StringBuilder();
        for (int i = 0; i < n; i++) {
            String clause = clause(n > 8);
            if (s.length() + clause.length() + 1 > 100) break;
            if (s.length() > 0) s.append(';');
            s.append(clause);
        }
        return s.toString();
    }

    private String clause(boolean isShort) {
        if (isShort || random.nextInt(4) == 0) return "many " + (isShort ? random.nextInt(10) : 3 + random.nextInt(8));
        int n = random.nextInt(6) == 0 ? random.nextInt(100) : random.nextInt(4);
        return (random.nextInt(3) > 0 ? "deaf " : "heed ") + n + " " + either(0);
    }

    private String either(int within) {
        String s = both(within);
        for (int i = 0; i < 3 && random.nextInt(3) == 0; i++) s += "|" + both(within);
        return s;
    }

    private String both(int within) {
        String s = single(within);
        for (int i = 0; i < 3 && random.nextInt(3) == 0; i++) s += "&" + single(within);
        return s;
    }

    private String single(int within) {
        int limit = random.nextInt(40) == 0 ? 5 : 4;
        if (within < limit && random.nextInt(4) == 0) return "!" + single(within + 1);
        if (within < limit && random.nextInt(4) == 0) return "(" + either(within + 1) + ")";
        char letter = "lkvmfd".charAt(random.nextInt(6));
        char relation = "<=>".charAt(random.nextInt(3));
        return "" + letter + relation + (random.nextInt(8) == 0 ? "0" : "") + random.nextInt(10);
    }
}
