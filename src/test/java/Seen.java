import java.util.ArrayList;
import java.util.List;

/**
 * All that can be seen of an object: the state, what would be, the text, the remembered states and the
 * save slots. Each question is put to objects of its own, since some of them change what they ask for.
 */
final class Seen {
    private static final int MOST_REMEMBERED = 14;

    private final List<String> answers = new ArrayList<>();

    private Seen() {
    }

    static List<String> of(Run run) {
        Seen seen = new Seen();
        int spaces = Integer.parseInt(run.again().call("about(0)"));
        seen.numbers(run.again(), "");
        seen.times(run.again(), spaces);
        seen.forecasts(run.again(), spaces);
        seen.remembered(run.again());
        for (int slot = 0; slot < 2; slot++) {
            Run restored = run.again();
            seen.ask(restored, "", "restore(" + slot + ")");
            seen.numbers(restored, "behind restore(" + slot + "), ");
        }
        seen.text(run.again());
        return seen.answers;
    }

    /** The first answer that the two have otherwise; nothing if there is none. */
    static String difference(Run one, Run other) {
        List<String> first = of(one);
        List<String> second = of(other);
        for (int i = 0; i < Math.max(first.size(), second.size()); i++) {
            String left = i < first.size() ? first.get(i) : "nothing";
            String right = i < second.size() ? second.get(i) : "nothing";
            if (!left.equals(right)) {
                return left + " and " + right;
            }
        }
        return "";
    }

    private String ask(Run run, String when, String call) {
        String answer = run.call(call);
        answers.add(when + call + " answered " + answer);
        return answer;
    }

    private void numbers(Run run, String when) {
        int spaces = Integer.parseInt(run.call("about(0)"));
        for (int what = 0; what <= 8; what++) {
            ask(run, when, "about(" + what + ")");
        }
        for (int s = 0; s < spaces; s++) {
            for (int what = 0; what <= 10; what++) {
                ask(run, when, "space(" + s + ", " + what + ")");
            }
            for (int lender = 0; lender < spaces; lender++) {
                ask(run, when, "loans(" + s + ", " + lender + ")");
            }
        }
    }

    private void times(Run run, int spaces) {
        for (int s = 0; s < spaces; s++) {
            for (int page = 0; page < 40; page++) {
                ask(run, "", "time(" + s + ", " + page + ")");
            }
        }
    }

    private void forecasts(Run run, int spaces) {
        for (int s = 0; s < spaces; s++) {
            ask(run, "", "would(" + s + ", 39)");
            ask(run, "", "room(" + s + ")");
            ask(run, "", "harm(" + s + ", 60)");
            ask(run, "", "victim(" + s + ")");
            ask(run, "", "mostFloor(" + s + ")");
            ask(run, "", "leastFloor(" + s + ")");
            ask(run, "", "oldest(" + s + ", 0)");
        }
        ask(run, "", "noisy()");
        ask(run, "", "simulate(1, 99)");
    }

    private void remembered(Run run) {
        String answer = "";
        for (int k = 0; k <= MOST_REMEMBERED && !answer.startsWith("throws."); k++) {
            answer = ask(run, "", "undo()");
            ask(run, "behind undo(), ", "about(0)");
            ask(run, "behind undo(), ", "about(1)");
            ask(run, "behind undo(), ", "about(5)");
            ask(run, "behind undo(), ", "about(8)");
        }
        numbers(run, "behind all undo(), ");
    }

    private void text(Run run) {
        ask(run, "", "errorPosition()");
        ask(run, "", "load()");
        ask(run, "behind load(), ", "restore(0)");
        numbers(run, "behind load(), ");
        ask(run, "", "append(68)");
        ask(run, "", "clearText()");
    }
}
