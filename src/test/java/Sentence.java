import java.io.IOException;
import java.nio.file.Files;
import java.nio.file.Path;
import java.util.Set;

/**
 * A sentence of the document that names a boundary, with runs of calls that go so only if it holds.
 * A run is told in steps between semicolons, each a call (see Run) and what is due: "= n" a number,
 * "! Index" (or Argument, State) that exception, nothing behind it any number. What must change
 * nothing (a call that throws, a call that tells what would be) is looked at from all sides.
 */
final class Sentence {
    private static final Path DOCUMENT = Path.of("../shared/DOC.md");
    private static final String[] TERMS = {"SPACES AND ROOM", "WRITING", "TRIMMING", "TEXT",
        "ACTIONS AND UNDO", "EXCEPTIONS", "The constants:", "Ahead of the calls"};
    private static final Set<String> FORECASTS = Set.of("would", "room", "harm", "victim", "noisy",
        "mostFloor", "leastFloor", "runScript", "simulate");

    private final String name;

    private Sentence(String name) {
        this.name = name;
    }

    /** The place is a promise ("Promise 12"), a part of the Terms ("WRITING"), or another section. */
    static Sentence of(String place, String words) {
        Sentence sentence = new Sentence(place + ", \"" + words + "\"");
        Check.same(sentence.name + " stands in the document", String.valueOf(section(place).contains(words)), "true");
        return sentence;
    }

    private static String section(String place) {
        String all;
        try {
            all = Files.readString(DOCUMENT).replaceAll("\\s+", " ");
        } catch (IOException e) {
            return "";
        }
        for (String term : TERMS) {
            all = all.replace(" " + term + " ", " ## " + term + " ");
        }
        int from = all.indexOf("## " + place + (place.startsWith("Promise") ? ": " : " "));
        if (from < 0) {
            return "";
        }
        int to = all.indexOf(" ## ", from);
        return to < 0 ? all.substring(from) : all.substring(from, to);
    }

    /** A run on a new object. */
    Sentence holds(String... rows) {
        behind(String.join(";", rows));
        return this;
    }

    /** Two runs behind which nothing can be seen that differs. */
    Sentence alike(String one, String other) {
        Check.same(name + ", [" + one + "] and [" + other + "]: what differs behind them",
            Seen.difference(behind(one), behind(other)), "");
        return this;
    }

    private Run behind(String steps) {
        Run run = new Run();
        for (String step : steps.split(";")) {
            if (!step.isBlank()) {
                take(run, step.trim());
            }
        }
        return run;
    }

    private void take(Run run, String step) {
        int end = step.lastIndexOf(')') + 1;
        String call = step.substring(0, end);
        String due = due(step.substring(end).trim());
        boolean mustKeep = due.startsWith("throws.") || FORECASTS.contains(call.substring(0, call.indexOf('(')));
        Run before = mustKeep ? run.again() : null;
        String got = run.call(call);
        if (due.isEmpty()) {
            Check.same(name + ": " + call + " throws", String.valueOf(got.startsWith("throws.")), "false");
        } else {
            Check.same(name + ": " + call, got, due);
        }
        if (mustKeep) {
            Check.same(name + ": what is changed by " + call, Seen.difference(before, run), "");
        }
    }

    private static String due(String told) {
        switch (told) {
            case "! Index":
                return "throws.IndexOutOfBoundsException";
            case "! Argument":
                return "throws.IllegalArgumentException";
            case "! State":
                return "throws.IllegalStateException";
            default:
                if (!told.isEmpty() && !told.startsWith("= ")) {
                    throw new IllegalArgumentException("not a due answer: " + told);
                }
                return told.isEmpty() ? "" : told.substring(2).trim();
        }
    }

    /** Steps in a row: # stands for each of the numbers from the first to the last. */
    static String each(String step, int first, int last) {
        StringBuilder all = new StringBuilder();
        for (int number = first; number <= last; number++) {
            all.append(step.replace("#", String.valueOf(number))).append("; ");
        }
        return all.toString();
    }
}
