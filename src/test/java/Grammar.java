import java.util.ArrayList;
import java.util.List;
import java.util.function.Predicate;

/** WAYS read by cutting THE TEXT apart, and THE FAULT found by trying what a text could go on with. */
final class Grammar {
    private static final String[] WHOLE = {"heed 1 l=1", "deaf 1 l=1", "many 1"};

    private Grammar() { }

    /** The CLAUSES, or null: it is no WAY. */
    static List<Model.Clause> wayOf(String text) {
        String[] parts = text.split(";", -1);
        if (parts.length > 10) return null;
        List<Model.Clause> clauses = new ArrayList<>();
        for (String part : parts) {
            Model.Clause clause = clauseOf(part);
            if (clause == null) return null;
            clauses.add(clause);
        }
        return clauses;
    }

    private static Model.Clause clauseOf(String part) {
        String[] words = part.split(" ", -1);
        if (words.length < 2 || !words[1].matches("[0-9]{1,2}")) return null;
        int n = Integer.parseInt(words[1]);
        if (words[0].equals("many")) return words.length == 2 ? new Model.Clause("many", n, null) : null;
        if (words.length != 3 || !words[0].matches("heed|deaf")) return null;
        Predicate<Model.Facts> holds = either(words[2], 0);
        return holds == null ? null : new Model.Clause(words[0], n, holds);
    }

    private static Predicate<Model.Facts> either(String s, int within) {
        Predicate<Model.Facts> all = null;
        for (String t : cut(s, '|')) {
            Predicate<Model.Facts> one = both(t, within);
            if (one == null) return null;
            all = all == null ? one : all.or(one);
        }
        return all;
    }

    private static Predicate<Model.Facts> both(String s, int within) {
        Predicate<Model.Facts> all = null;
        for (String f : cut(s, '&')) {
            Predicate<Model.Facts> one = single(f, within);
            if (one == null) return null;
            all = all == null ? one : all.and(one);
        }
        return all;
    }

    private static Predicate<Model.Facts> single(String s, int within) {
        if (s.matches("[lkvmfd][<=>][0-9]{1,2}")) return test(s);
        if (s.isEmpty() || within == 4) return null;
        if (s.charAt(0) == '!') {
            Predicate<Model.Facts> inner = single(s.substring(1), within + 1);
            return inner == null ? null : inner.negate();
        }
        boolean isBracketed = s.length() > 2 && s.charAt(0) == '(' && s.charAt(s.length() - 1) == ')';
        return isBracketed ? either(s.substring(1, s.length() - 1), within + 1) : null;
    }

    private static Predicate<Model.Facts> test(String s) {
        char letter = s.charAt(0);
        int n = Integer.parseInt(s.substring(2));
        return switch (s.charAt(1)) {
            case '<' -> facts -> facts.of(letter) < n;
            case '=' -> facts -> facts.of(letter) == n;
            default -> facts -> facts.of(letter) > n;
        };
    }

    /** The parts between the signs that stand in no bracket; what is not balanced is left in one part. */
    private static List<String> cut(String s, char sign) {
        List<String> parts = new ArrayList<>();
        int open = 0;
        int from = 0;
        for (int i = 0; i < s.length(); i++) {
            char c = s.charAt(i);
            if (c == '(') open++;
            if (c == ')') open--;
            if (open < 0) return List.of("");
            if (open == 0 && c == sign) {
                parts.add(s.substring(from, i));
                from = i + 1;
            }
        }
        if (open != 0) return List.of("");
        parts.add(s.substring(from));
        return parts;
    }

    static int faultOf(String text) {
        for (int n = 1; n <= text.length(); n++) {
            if (!canGoOn(text.substring(0, n))) return n - 1;
        }
        return text.length();
    }

    private static boolean canGoOn(String begun) {
        if (wayOf(begun) != null) return true;
        for (String whole : WHOLE) {
            for (int from = 0; from <= whole.length(); from++) {
                for (int close = 0; close <= 4; close++) {
                    if (wayOf(begun + whole.substring(from) + ")".repeat(close)) != null) return true;
                }
            }
        }
        return false;
    }
}
