import java.util.ArrayList;
import java.util.List;

/**
 * How a whole object is: some 300 answers, so that two objects can be held against one another. The last
 * calls change it (rows, THE TEXT, undo), since what they find can't be asked otherwise.
 */
final class Whole {
    private final Subject x;
    private final List<String> answers = new ArrayList<>();

    private Whole(Subject x) {
        this.x = x;
    }

    static List<String> of(Subject x) {
        Whole whole = new Whole(x);
        whole.traces();
        whole.people();
        whole.told();
        whole.tapes();
        whole.rows();
        whole.add("way()");
        whole.add("told(1)");
        whole.add("count(2)");
        whole.add("count(6)");
        whole.add("undo()");
        whole.people();
        whole.told();
        whole.rows();
        return whole.answers;
    }

    private void add(String call) {
        answers.add(call + " = " + x.ask(call));
    }

    /** THE TRACE is asked for first, and told apart by its words: act() changes nothing else. */
    private void traces() {
        add("count(7)");
        for (int i = 0; i < 5; i++) add("trace(" + i + ")");
        add("trace(11)");
    }

    static boolean isOfTrace(String answer) {
        return answer.startsWith("trace") || answer.startsWith("count(7)");
    }

    private void people() {
        for (int maid = 0; maid < 6; maid++) {
            for (int what = 0; what < 3; what++) add("of(" + maid + ", " + what + ")");
        }
        for (int pilgrim = 0; pilgrim < 5; pilgrim++) {
            for (int what = 0; what < 4; what++) add("at(" + pilgrim + ", " + what + ")");
        }
    }

    private void told() {
        for (int what = 0; what < 7; what++) add("count(" + what + ")");
        for (int what = 0; what < 6; what++) add("told(" + what + ")");
        add("who()");
        add("can(0, 0)");
        add("can(0, 1)");
        add("looked()");
        add("ends(0)");
        add("ends(1)");
        add("through(77)");
    }

    private void tapes() {
        for (int tape = 0; tape < 6; tape++) {
            for (int i = 0; i < 5; i++) add("read(" + tape + ", " + i + ")");
        }
    }

    private void rows() {
        for (int maid = 0; maid < 6; maid++) {
            for (int part = 0; part < 4; part++) add("row(" + maid + ", " + part + ", 0)");
        }
    }
}
