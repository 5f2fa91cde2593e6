/** What the document says of actions and undo, and promises 11 and 14 to 16, at the boundaries that it names. */
final class ActionEdgeTest {
    private static final String ACTIONS = "ACTIONS AND UNDO";

    public static void main(String[] args) {
        make();
        setFloor();
        setCeiling();
        state();
        whatIsAnAction();
        beforeEachAction();
        mostRemembered();
        noActions();
        undo();
        Check.finish();
    }

    private static void make() {
        Sentence.of("Promise 11", "`floor`: 0 to 60")
            .holds("make(LEAST, 60) ! Argument; make(-1, 60) ! Argument; make(0, 60) = 0; make(60, 60) = 1",
                "make(61, 60) ! Argument; make(61, 61) ! Argument; make(MOST, MOST) ! Argument",
                "make(MOST, 60) ! Argument; space(0, 0) = 0; space(1, 0) = 60");
        Sentence.of("Promise 11", "`ceiling`: from the floor, and at least 1, to 60")
            .holds("make(0, LEAST) ! Argument; make(0, -1) ! Argument; make(0, 0) ! Argument; make(0, 1) = 0",
                "make(0, 60) = 1; make(0, 61) ! Argument; make(0, MOST) ! Argument; make(2, 1) ! Argument",
                "make(2, 2) = 2; make(2, 3) = 3; space(2, 1) = 2; space(3, 1) = 3; make(56, 55) ! Argument",
                "make(56, 56) = 4")
            .holds("make(60, 59) ! Argument; make(60, 61) ! Argument; make(60, 60) = 0; space(0, 1) = 60");
        Sentence.of("Promise 11", "Returns its number.")
            .holds(Sentence.each("make(0, 1) = #", 0, 4), "undo() = 4; undo() = 3; make(0, 2) = 3; space(3, 1) = 2");
        Sentence.of("Promise 11", "Throws `IllegalArgumentException` if floor or ceiling is out of range")
            .holds(Sentence.each("make(0, 60) = #", 0, 4), "make(-1, 60) ! Argument; make(0, 0) ! Argument",
                "make(61, 61) ! Argument; make(0, 61) ! Argument; make(0, 60) ! State");
        Sentence.of("Promise 11", "Throws `IllegalStateException` if there are 5, or the floor is more than what the "
            + "common room is free by")
            .holds(Sentence.each("make(1, 1) = #", 0, 4), "make(0, 1) ! State; make(56, 60) ! State; about(0) = 5",
                "undo() = 4; make(0, 1) = 4")
            .holds("make(0, 60); fill(0, 0, 29) = 3; about(3) = 30; about(2) = 60; make(31, 60) ! State",
                "make(30, 60) = 1; about(3) = 0; make(1, 60) ! State; make(0, 60) = 2; trim(0, 0) = 29",
                "make(2, 2) ! State; make(1, 1) = 3")
            .holds("make(60, 60) = 0; make(1, 1) ! State; setFloor(0, 59) = 60; make(2, 2) ! State; make(1, 1) = 1",
                "about(3) = 0");
    }

    private static void setFloor() {
        Sentence.of("Promise 14", "`floor`: 0 to 60")
            .holds("make(0, 60); setFloor(0, LEAST) ! Argument; setFloor(0, -1) ! Argument; setFloor(0, 0) = 0",
                "setFloor(0, 60) = 0; setFloor(0, 61) ! Argument; setFloor(0, MOST) ! Argument; space(0, 0) = 60",
                "setFloor(0, 0) = 60; space(0, 0) = 0");
        Sentence.of("Promise 14", "Returns the previous one.")
            .holds("make(7, 60); setFloor(0, 8) = 7; setFloor(0, 8) = 8; setFloor(0, 0) = 8; setFloor(0, 60) = 0",
                "undo() = 4; setFloor(0, 1) = 0");
        Sentence.of("Promise 14", "Throws `IndexOutOfBoundsException` if there is no such space")
            .holds("make(0, 60); make(0, 60); setFloor(LEAST, 0) ! Index; setFloor(-1, 0) ! Index",
                "setFloor(2, 0) ! Index; setFloor(5, 0) ! Index; setFloor(MOST, 0) ! Index; setFloor(2, 61) ! Index",
                "setFloor(-1, -1) ! Index; setFloor(1, 5) = 0; space(1, 0) = 5; space(0, 0) = 0");
        Sentence.of("Promise 14", "Throws `IllegalArgumentException` if floor is out of range")
            .holds("make(60, 60); fill(0, 0, 39) = 1; setFloor(0, -1) ! Argument; setFloor(0, 61) ! Argument",
                "setFloor(0, 39) ! State; setFloor(0, 40) = 60");
        Sentence.of("Promise 14", "Throws `IllegalStateException` if it is not possible")
            .holds("make(10, 20); make(30, 60); fill(0, 0, 4) = 1; setFloor(0, 4) ! State; setFloor(0, 5) = 10",
                "setFloor(0, 21) ! State; setFloor(0, 20) = 5; setFloor(1, 41) ! State; setFloor(1, 40) = 30",
                "about(3) = 0; setFloor(0, 20) = 20; setFloor(1, 0) = 40");
    }

    private static void setCeiling() {
        Sentence.of("Promise 15", "Changes a ceiling. (Pages above it stay.)")
            .holds("make(0, 10); fill(0, 0, 9) = 3; setCeiling(0, 1) = 10; space(0, 2) = 10; about(1) = 10",
                "time(0, 9) = 10; write(0, 9) = 0; write(0, 10) = 5; trim(0, 9) = 9; write(0, 9) = 5",
                "setCeiling(0, 10) = 1; write(0, 9) = 3; write(0, 10) = 5");
        Sentence.of("Promise 15", "`ceiling`: 1 to 60")
            .holds("make(0, 30); setCeiling(0, LEAST) ! Argument; setCeiling(0, -1) ! Argument",
                "setCeiling(0, 0) ! Argument; setCeiling(0, 1) = 30; setCeiling(0, 60) = 1",
                "setCeiling(0, 61) ! Argument; setCeiling(0, MOST) ! Argument; space(0, 1) = 60");
        Sentence.of("Promise 15", "Returns the previous one.")
            .holds("make(0, 7); setCeiling(0, 8) = 7; setCeiling(0, 8) = 8; setCeiling(0, 1) = 8; undo() = 3",
                "setCeiling(0, 60) = 8");
        Sentence.of("Promise 15", "Throws `IndexOutOfBoundsException` if there is no such space")
            .holds("make(0, 60); make(0, 60); setCeiling(LEAST, 1) ! Index; setCeiling(-1, 1) ! Index",
                "setCeiling(2, 1) ! Index; setCeiling(5, 1) ! Index; setCeiling(MOST, 1) ! Index",
                "setCeiling(2, 0) ! Index; setCeiling(-1, 61) ! Index; setCeiling(1, 1) = 60; space(0, 1) = 60",
                "space(1, 1) = 1");
        Sentence.of("Promise 15", "Throws `IllegalArgumentException` if ceiling is out of range, or less than the "
            + "floor")
            .holds("make(10, 30); setCeiling(0, 9) ! Argument; setCeiling(0, 10) = 30; setFloor(0, 11) ! State",
                "setFloor(0, 9) = 10; setCeiling(0, 8) ! Argument; setCeiling(0, 9) = 10; setFloor(0, 0) = 9",
                "setCeiling(0, 0) ! Argument; setCeiling(0, 1) = 9")
            .holds("make(60, 60); setCeiling(0, 59) ! Argument; setCeiling(0, 61) ! Argument; setCeiling(0, 60) = 60");
    }

    private static void state() {
        Sentence.of(ACTIONS, "change the state, which consists of everything but the text and the save slots.")
            .holds("make(0, 60) = 0; save(0) = 0; text(Ds0) = 3; write(0, 0) = 3; save(1) = 1; append(48) = 4",
                "undo() = 1; about(1) = 0; errorPosition() = 4; undo() = 0; about(0) = 0; clearText() = 4",
                "restore(1) = 1; about(0) = 1; restore(0) = 0; about(0) = 1")
            .holds("make(0, 60) = 0; text(D) = 1; save(0) = 0; write(0, 0) = 3; clearText() = 1; restore(0) = 0",
                "clearText() = 0")
            // the counts and the time are of the state
            .holds("device(Ds6060s0020r10019r00039) = 0; make(0, 60) = 2; trim(0, 0) = 39; write(0, 0) = 1",
                "write(1, 20) = 5; about(5) = 61; about(8) = 1; undo() = 3; about(8) = 0; space(1, 10) = 0; undo() = 2",
                "about(5) = 60; time(0, 0) = -1; undo() = 1; time(0, 0) = 21; undo() = 0; about(0) = 2")
            .holds("device(Ds6060s0060r10029r00029) = 0; write(0, 30) = 2; about(6) = 1; about(7) = 1; time(1, 0) = -1",
                "undo() = 0; about(6) = 0; about(7) = 0; space(0, 8) = 0; space(1, 9) = 0; time(1, 0) = 1",
                "loans(1, 0) = 30; space(0, 3) = 30");
    }

    private static void whatIsAnAction() {
        Sentence.of(ACTIONS, "does not throw an exception is an action, also if nothing becomes different (undo is "
            + "none).")
            .holds("make(0, 1) = 0; write(0, 0) = 3; write(0, 1) = 5; setFloor(0, 0) = 0; setCeiling(0, 1) = 1",
                "write(0, 0) = 0; trim(0, 0) = 0; undo() = 6; time(0, 0) = 2; undo() = 5; time(0, 0) = 1; undo() = 4",
                "undo() = 3; about(8) = 1; undo() = 2; about(8) = 0; undo() = 1; about(1) = 0; undo() = 0",
                "about(0) = 0; undo() ! State")
            .holds("make(0, 0) ! Argument; make(-1, 5) ! Argument; write(0, 0) ! Index; undo() ! State; make(0, 1) = 0",
                "trim(0, 0) ! State; setFloor(0, 2) ! State; setFloor(0, 61) ! Argument; setCeiling(0, 0) ! Argument",
                "setCeiling(1, 1) ! Index; undo() = 0; undo() ! State")
            .holds("make(0, 60) = 0; write(0, 0) = 3; undo() = 1; undo() = 0; undo() ! State; about(0) = 0")
            .alike("make(0, 60); write(0, 0); undo()", "make(0, 60)")
            .alike("make(0, 60); write(0, 0); undo(); write(0, 1)", "make(0, 60); write(0, 1)")
            .alike("device(Ds6060s0060r10029r00029); write(0, 30); undo()", "device(Ds6060s0060r10029r00029)");
    }

    private static void beforeEachAction() {
        Sentence.of(ACTIONS, "Before each action, the state is remembered.")
            .holds("make(0, 2) = 0; undo() = 0; about(0) = 0; make(0, 2) = 0; write(0, 0) = 3; undo() = 1",
                "about(1) = 0; write(0, 0) = 3; trim(0, 0) = 0; undo() = 2; time(0, 0) = 1; setFloor(0, 1) = 0",
                "undo() = 2; space(0, 0) = 0; setCeiling(0, 9) = 2; undo() = 2; space(0, 1) = 2");
        Sentence.of("Promise 16", "Takes back the last action that is remembered.")
            .alike("make(0, 60); write(0, 0); write(0, 1); undo(); undo()", "make(0, 60)")
            .alike("make(0, 60); write(0, 0); trim(0, 0); undo(); setCeiling(0, 1); undo(); setFloor(0, 59); undo()",
                "make(0, 60); write(0, 0)")
            .alike("make(0, 1); write(0, 0); write(0, 1); undo()", "make(0, 1); write(0, 0)");
    }

    private static void mostRemembered() {
        Sentence.of(ACTIONS, "At most 14 states are remembered; when one more is remembered, the oldest one is "
            + "forgotten.")
            // 13 and 14 actions can all be taken back, of 15 and 16 the first ones stay
            .holds("device(Ds0060) = 0; fill(0, 1, 13) = 3; undo() = 12; about(1) = 12", taken(11), "about(1) = 0",
                "undo() ! State")
            .holds("device(Ds0060) = 0; fill(0, 1, 14) = 3; undo() = 13; about(1) = 13", taken(12), "about(1) = 0",
                "undo() ! State")
            .holds("device(Ds0060) = 0; fill(0, 1, 15) = 3; undo() = 13; about(1) = 14", taken(12), "about(1) = 1",
                "time(0, 1) = 1; undo() ! State")
            .holds("device(Ds0060) = 0; fill(0, 1, 16) = 3; undo() = 13; about(1) = 15", taken(12), "about(1) = 2",
                "time(0, 2) = 2; undo() ! State")
            .holds("device(Ds0060) = 0; fill(0, 0, 39) = 3; undo() = 13; undo() = 12; write(0, 39) = 3",
                "write(0, 38) = 3; write(0, 37) = 0; undo() = 13; time(0, 37) = 38; undo() = 12; about(1) = 39",
                "undo() = 11; about(1) = 38; time(0, 39) = -1")
            .holds("device(Ds0060) = 0; fill(0, 0, 27) = 3", taken(13), "about(1) = 14; undo() ! State",
                "fill(0, 20, 39) = 3", taken(13), "about(1) = 20")
            .holds("device(Ds0060) = 0; fill(0, 0, 38) = 3; fill(0, 0, 20) = 0; trim(0, 0) = 38; undo() = 13",
                "time(0, 0) = 40; undo() = 12; time(0, 20) = 21; undo() = 11; time(0, 19) = 20", taken(10),
                "time(0, 7) = 47; time(0, 8) = 9; about(5) = 47; undo() ! State")
            // what is taken back makes room for as many again
            .holds("device(Ds0060) = 0; fill(0, 1, 15) = 3; undo() = 13; undo() = 12; write(0, 0) = 3",
                "write(0, 39) = 3; undo() = 13; time(0, 0) = 14; undo() = 12; about(1) = 13", taken(11),
                "about(1) = 1; undo() ! State")
            .alike("device(Ds0060); write(0, 0); fill(0, 1, 14); text(D)",
                "device(Ds0060w000); fill(0, 1, 14); text(D)");
    }

    private static String taken(int first) {
        StringBuilder all = new StringBuilder();
        for (int left = first; left >= 0; left--) {
            all.append("undo() = ").append(left).append("; ");
        }
        return all.toString();
    }

    private static void noActions() {
        Sentence.of(ACTIONS, "load and restore are not actions.")
            .holds("text(Ds0060w000) = 10; make(0, 60) = 0; load() = 0; undo() ! State; write(0, 1) = 3; undo() = 0",
                "undo() ! State; about(1) = 1")
            .holds("make(0, 60) = 0; save(0) = 0; write(0, 0) = 3; restore(0) = 0; undo() ! State; write(0, 1) = 3",
                "undo() = 0; undo() ! State")
            .holds("make(0, 60) = 0; save(0) = 0; append(68) = 1; clearText() = 1; errorPosition() = 0",
                "write(0, 0) = 3; save(1) = 1; would(0, 1) = 3; simulate(1, 1); runScript(1, 10001) = -1; undo() = 1",
                "about(1) = 0; undo() = 0; about(0) = 0; undo() ! State");
    }

    private static void undo() {
        Sentence.of("Promise 16", "Returns how many states are still remembered.")
            .holds("make(0, 60) = 0; undo() = 0; make(0, 60) = 0; write(0, 0) = 3; undo() = 1; undo() = 0",
                "make(0, 1) = 0; undo() = 0")
            .holds("device(Ds0060) = 0; fill(0, 0, 13) = 3; undo() = 13; write(0, 13) = 3; undo() = 13",
                "write(0, 13) = 3; write(0, 14) = 3; undo() = 13");
        Sentence.of("Promise 16", "Throws `IllegalStateException` if none is remembered")
            .holds("undo() ! State; make(0, 60) = 0; undo() = 0; undo() ! State; undo() ! State; make(0, 60) = 0",
                "undo() = 0")
            .holds("device(Ds0060w000) = 0; undo() ! State; about(1) = 1; about(0) = 1")
            .holds("make(0, 60) = 0; save(0) = 0; restore(0) = 0; undo() ! State; about(0) = 1");
    }
}
