import java.lang.reflect.Method;
import java.lang.reflect.Modifier;
import java.util.Set;
import java.util.TreeSet;

/** What the document says of exceptions, for each method that throws: what comes first, and that nothing changes. */
final class RefusalTest {
    private static final String EXCEPTIONS = "EXCEPTIONS";

    /** Loans, recalls, lost pages and refused writes; a text, both slots filled, and 6 states remembered. */
    private static final String RICH = "device(Ds2060s0060s3040r10039r00012r20008r10001) = 0; save(0) = 60; "
        + "write(0, 13) = 2; write(1, 0) = 5; save(1) = 60; trim(0, 0) = 13; setCeiling(1, 50) = 60; "
        + "write(0, 13) = 0; setFloor(0, 20) = 20; text(Ds0060w00) = 9; ";
    /** The same with as many remembered states as there can be, so that one more would be seen. */
    private static final String AGED = RICH + Sentence.each("write(0, 39)", 1, 20);
    private static final String FULL_TEXT = "text(D" + "w000".repeat(29) + "www) = 120; ";
    private static final String FIVE = "make(0, 1) = 3; make(0, 1) = 4; ";

    /** A method, what must come before, and calls of it that throw. */
    private static final String[][] REFUSED = {
        {"append", "", "append(-1) ! Argument; append(256) ! Argument"},
        {"append", FULL_TEXT, "append(48) ! State; append(0) ! State"},
        {"load", "", "load() ! State"},
        {"about", "", "about(-1) ! Argument; about(9) ! Argument"},
        {"space", "", "space(-1, 0) ! Index; space(3, 0) ! Index; space(0, -1) ! Argument; space(2, 11) ! Argument"},
        {"loans", "", "loans(-1, 0) ! Index; loans(3, 0) ! Index; loans(0, -1) ! Index; loans(0, 3) ! Index"},
        {"time", "", "time(-1, 0) ! Index; time(3, 0) ! Index; time(0, -1) ! Index; time(0, 40) ! Index"},
        {"oldest", "", "oldest(-1, 0) ! Index; oldest(3, 0) ! Index; oldest(0, -1) ! Argument"},
        {"make", "", "make(-1, 60) ! Argument; make(61, 61) ! Argument; make(0, 0) ! Argument; make(0, 61) ! Argument"},
        {"make", "", "make(1, 60) ! State; make(60, 60) ! State"},
        {"make", FIVE, "make(0, 60) ! State; make(0, 61) ! Argument"},
        {"write", "", "write(-1, 0) ! Index; write(3, 0) ! Index; write(0, -1) ! Index; write(0, 40) ! Index"},
        {"trim", "", "trim(-1, 0) ! Index; trim(3, 0) ! Index; trim(0, -1) ! Index; trim(0, 40) ! Index"},
        {"trim", "", "trim(0, 0) ! State; trim(1, 0) ! State"},
        {"setFloor", "", "setFloor(-1, 0) ! Index; setFloor(3, 0) ! Index"},
        {"setFloor", "", "setFloor(0, -1) ! Argument; setFloor(0, 61) ! Argument"},
        {"setFloor", "", "setFloor(0, 18) ! State; setFloor(0, 21) ! State; setFloor(2, 41) ! State"},
        {"setCeiling", "", "setCeiling(-1, 60) ! Index; setCeiling(3, 60) ! Index"},
        {"setCeiling", "", "setCeiling(1, 0) ! Argument; setCeiling(0, 61) ! Argument; setCeiling(0, 19) ! Argument"},
        {"would", "", "would(-1, 0) ! Index; would(3, 0) ! Index; would(0, -1) ! Index; would(0, 40) ! Index"},
        {"room", "", "room(-1) ! Index; room(3) ! Index"},
        {"harm", "", "harm(-1, 1) ! Index; harm(3, 1) ! Index; harm(0, -1) ! Argument; harm(0, 61) ! Argument"},
        {"victim", "", "victim(-1) ! Index; victim(3) ! Index"},
        {"mostFloor", "", "mostFloor(-1) ! Index; mostFloor(3) ! Index"},
        {"leastFloor", "", "leastFloor(-1) ! Index; leastFloor(3) ! Index"},
        {"runScript", "", "runScript(0, 10000) ! Argument; runScript(4, 10000) ! Argument"},
        {"runScript", "", "runScript(1, -10000) ! Argument; runScript(1, 110000) ! Argument"},
        {"runScript", "", "runScript(2, 11000010000) ! Argument; runScript(3, 1100001000010000) ! Argument"},
        {"simulate", "", "simulate(1, 0) ! Argument; simulate(1, 100) ! Argument"},
        {"save", "", "save(-1) ! Index; save(2) ! Index"},
        {"restore", "", "restore(-1) ! Index; restore(2) ! Index"}};

    /** Without RICH before them, since there must be no remembered state or nothing in a slot. */
    private static final String[][] REFUSED_ALONE = {
        {"undo", "device(Ds0060w000) = 0; save(0) = 1; text(Dw) = 2; ", "undo() ! State; undo() ! State"},
        {"restore", "make(0, 60) = 0; save(0) = 0; write(0, 0) = 3; text(Dw) = 2; ", "restore(1) ! State"},
        {"restore", "make(0, 60) = 0; save(1) = 0; write(0, 0) = 3; text(Dw) = 2; ", "restore(0) ! State"}};

    public static void main(String[] args) {
        meanings();
        nothingChanges();
        namedFirst();
        nothingElse();
        Check.finish();
    }

    private static void meanings() {
        Sentence.of(EXCEPTIONS, "IndexOutOfBoundsException means that a space or a page does not exist, or that a "
            + "save slot is not 0 or 1.")
            .holds("write(0, 0) ! Index; make(0, 60) = 0; write(0, 0) = 3; write(0, 39) = 3; write(0, 40) ! Index",
                "write(1, 0) ! Index; save(0) = 2; save(1) = 2; save(2) ! Index; save(-1) ! Index");
        Sentence.of(EXCEPTIONS, "IllegalArgumentException means that another argument is out of its range.")
            .holds("append(256) ! Argument; about(9) ! Argument; make(61, 61) ! Argument; make(0, 60) = 0",
                "space(0, 11) ! Argument; oldest(0, -1) ! Argument; setFloor(0, 61) ! Argument",
                "setCeiling(0, 61) ! Argument; harm(0, 61) ! Argument; runScript(4, 0) ! Argument",
                "simulate(0, 100) ! Argument");
        Sentence.of(EXCEPTIONS, "IllegalStateException means what the method says.")
            .holds("load() ! State; undo() ! State; restore(0) ! State; make(60, 60) = 0; make(1, 1) ! State",
                "trim(0, 0) ! State; write(0, 0) = 1; setFloor(0, 0) ! State", "text(" + "D".repeat(120) + ") = 120",
                "append(68) ! State");
    }

    private static void nothingChanges() {
        Sentence sentence = Sentence.of(EXCEPTIONS, "A call that throws an exception changes nothing.");
        Set<String> refused = new TreeSet<>();
        for (String[] row : REFUSED) {
            sentence.holds(RICH + row[1] + row[2]).holds(AGED + row[1] + row[2]);
            note(refused, row);
        }
        for (String[] row : REFUSED_ALONE) {
            sentence.holds(row[1] + row[2]);
            note(refused, row);
        }
        Check.same("the exceptions of the face that are thrown here", refused.toString(), declared().toString());
    }

    private static void note(Set<String> refused, String[] row) {
        for (String step : row[2].split(";")) {
            refused.add(row[0] + step.substring(step.indexOf('!') + 1));
        }
    }

    private static Set<String> declared() {
        Set<String> all = new TreeSet<>();
        for (Method method : LentRoom.class.getDeclaredMethods()) {
            for (Class<?> type : method.getExceptionTypes()) {
                all.add(method.getName() + " " + type.getSimpleName().replaceAll("Illegal|OutOfBounds|Exception", ""));
            }
        }
        return all;
    }

    private static void namedFirst() {
        Sentence.of(EXCEPTIONS, "If several exceptions apply to a call, the one that its description names first is "
            + "thrown.")
            .holds(FULL_TEXT, "append(-1) ! Argument; append(256) ! Argument; append(MOST) ! Argument",
                "append(255) ! State")
            .holds(RICH, "space(3, 11) ! Index; space(-1, -1) ! Index; space(MOST, LEAST) ! Index",
                "space(2, 11) ! Argument")
            .holds(RICH, "oldest(3, -1) ! Index; oldest(-1, LEAST) ! Index; oldest(2, -1) ! Argument")
            .holds(RICH, FIVE, "make(-1, 60) ! Argument; make(61, 61) ! Argument; make(5, 4) ! Argument",
                "make(0, 0) ! Argument; make(0, 61) ! Argument; make(0, 1) ! State")
            .holds(RICH, "about(3) = 0; make(61, 60) ! Argument; make(2, 1) ! Argument; make(1, 61) ! Argument",
                "make(1, 1) ! State")
            .holds(RICH, "trim(3, 0) ! Index; trim(-1, 39) ! Index; trim(0, 40) ! Index; trim(0, -1) ! Index",
                "trim(0, 39) ! State")
            .holds(RICH, "setFloor(3, 61) ! Index; setFloor(-1, -1) ! Index; setFloor(3, 0) ! Index",
                "setFloor(0, 61) ! Argument; setFloor(0, -1) ! Argument; setFloor(0, 60) ! State",
                "setFloor(0, 0) ! State")
            .holds(RICH, "setCeiling(3, 0) ! Index; setCeiling(-1, 61) ! Index; setCeiling(0, 61) ! Argument")
            .holds(RICH, "harm(3, 61) ! Index; harm(-1, -1) ! Index; harm(2, 61) ! Argument")
            .holds("restore(2) ! Index; restore(-1) ! Index; restore(1) ! State")
            // one exception for several reasons
            .holds(RICH, "loans(3, -1) ! Index; time(3, 40) ! Index; write(-1, 40) ! Index; would(3, -1) ! Index",
                "runScript(0, -1) ! Argument; runScript(4, LEAST) ! Argument");
    }

    /** The methods that are told to throw nothing. */
    private static void nothingElse() {
        Sentence.of("Promise 3", "Returns the previous length of the text.")
            .holds(FULL_TEXT, "clearText() = 120; clearText() = 0");
        Sentence.of("Promise 4", "Checks the text.")
            .holds(FULL_TEXT, "errorPosition() = 118; clearText() = 120; errorPosition() = 0");
        Sentence.of("Promise 21", "Finds the noisy space.").holds("noisy() = -1; make(0, 1) = 0; noisy() = 0");
        Check.same("the methods without exceptions", withoutExceptions(), "[clearText, errorPosition, noisy]");
    }

    private static String withoutExceptions() {
        Set<String> names = new TreeSet<>();
        for (Method method : LentRoom.class.getDeclaredMethods()) {
            if (method.getExceptionTypes().length == 0 && Modifier.isPublic(method.getModifiers())) {
                names.add(method.getName());
            }
        }
        return names.toString();
    }
}
