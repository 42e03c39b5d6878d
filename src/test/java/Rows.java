import java.util.ArrayList;
import java.util.List;
import java.util.function.Supplier;

/** Rows of a call and the answer due ("maid(7, 0) = -1"), each told with the document's sentence it is for. */
final class Rows {
    private Rows() { }

    /** One row behind the other on the same object. */
    static void run(String sentence, Subject x, String... rows) {
        for (String row : rows) due(sentence, x, row);
    }

    /** Each row on an object of its own. */
    static void each(String sentence, Supplier<Subject> stage, String... rows) {
        for (String row : rows) due(sentence, stage.get(), row);
    }

    /** Each row on an object of its own, which it leaves as one is that was not asked at all. */
    static void unchanged(String sentence, Supplier<Subject> stage, String... rows) {
        List<String> unasked = Whole.of(stage.get());
        for (String row : rows) {
            Subject x = stage.get();
            due(sentence, x, row);
            alike(sentence + ": " + row, Whole.of(x), unasked);
        }
    }

    /** Likewise, but for THE TRACE. */
    static void unchangedButTrace(String sentence, Supplier<Subject> stage, String... rows) {
        List<String> unasked = Whole.of(stage.get());
        unasked.removeIf(Whole::isOfTrace);
        for (String row : rows) {
            Subject x = stage.get();
            due(sentence, x, row);
            List<String> asked = new ArrayList<>(Whole.of(x));
            asked.removeIf(Whole::isOfTrace);
            alike(sentence + ": " + row, asked, unasked);
        }
    }

    /** Both objects are as one another; they are used up by it. */
    static void alike(String sentence, Subject x, Subject other) {
        alike("\"" + sentence + "\"", Whole.of(x), Whole.of(other));
    }

    private static void due(String sentence, Subject x, String row) {
        int sign = row.lastIndexOf(" = ");
        String call = row.substring(0, sign);
        Due.is("\"" + sentence + "\": " + call, x.ask(call), Subject.number(row.substring(sign + 3)));
    }

    private static void alike(String call, List<String> got, List<String> want) {
        for (int i = 0; i < want.size(); i++) {
            if (!got.get(i).equals(want.get(i))) {
                Due.is(call + " has changed it: " + got.get(i) + ", not " + want.get(i), 1, 0);
                return;
            }
        }
        Due.is(call + " has changed nothing", got.size(), want.size());
    }
}
