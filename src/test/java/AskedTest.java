import java.util.ArrayList;
import java.util.List;
import java.util.function.Supplier;

/** "What is asked changes nothing": each question, by all numbers about its bounds, leaves an object as it was. */
public final class AskedTest {
    private static final int[] MARKS = {-1, 0, 1, 9, 48, 255, 256};

    public static void main(String[] args) {
        List<String> questions = questions();
        for (Supplier<Subject> stage : stages()) {
            List<String> unasked = Whole.of(stage.get());
            for (int from = 0; from < questions.size(); from += 40) {
                List<String> some = questions.subList(from, Math.min(questions.size(), from + 40));
                Subject x = stage.get();
                List<String> first = answers(x, some);
                Due.is("asked anew: " + some, answers(x, some).equals(first) ? 1 : 0, 1);
                leavesAsItWas(stage, some, unasked);
            }
        }
        Due.end("AskedTest");
    }

    private static List<Supplier<Subject>> stages() {
        return List.of(Stages::fresh, Stages::few, Stages::nearlyFull, Stages::kinds, Stages::full);
    }

    private static List<String> answers(Subject x, List<String> questions) {
        List<String> all = new ArrayList<>();
        for (String question : questions) all.add(question + " = " + x.ask(question));
        return all;
    }

    private static void leavesAsItWas(Supplier<Subject> stage, List<String> questions, List<String> unasked) {
        Subject x = stage.get();
        answers(x, questions);
        List<String> asked = Whole.of(x);
        for (int i = 0; i < unasked.size(); i++) Due.is(questions + ": " + unasked.get(i) + ", and then " + asked.get(i),
            asked.get(i).equals(unasked.get(i)) ? 1 : 0, 1);
    }

    private static List<String> questions() {
        List<String> all = new ArrayList<>();
        for (int i = -1; i < 9; i++) all.addAll(List.of("told(" + i + ")", "count(" + i + ")", "trace(" + i + ")"));
        for (int who = -1; who < 7; who++) {
            for (int what = -1; what < 5; what++) {
                all.addAll(List.of("of(" + who + ", " + what + ")", "at(" + who + ", " + what + ")",
                    "can(" + who + ", " + what + ")", "when(" + who + ", " + what + ")", "passes(" + who + ", " + what + ", 5)",
                    "taken(" + who + ", " + what + ")", "read(" + who + ", " + what + ")", "judge(" + who + ", " + what + ")"));
            }
        }
        for (int a : MARKS) {
            all.addAll(List.of("through(" + a + ")", "before(" + a + ", 0)", "before(" + a + ", 1)", "passes(0, 0, " + a + ")",
                "passes(1, 1, " + a + ")"));
            for (int b : MARKS) {
                all.addAll(List.of("order(" + a + ", " + b + ", -1)", "order(" + a + ", " + b + ", 2)",
                    "doused(" + a + ", " + b + ")", "odds(" + a + ", " + b + ", 0)", "odds(" + a + ", " + b + ", 1)"));
            }
        }
        for (int n : new int[] {-1, 0, 1, 7, 60, 61}) {
            for (int what : new int[] {0, 1, 10, 11, 14, 15, 20, 24, 25}) all.add("on(" + n + ", " + what + ")");
        }
        all.addAll(List.of("who()", "looked()", "ends(0)", "ends(1)", "ends(2)", "mean(0)", "mean(1)", "mean(2)"));
        return all;
    }
}
