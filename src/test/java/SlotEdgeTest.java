/** Promises 26 and 27 at the boundaries that the document names. */
final class SlotEdgeTest {
    public static void main(String[] args) {
        save();
        restore();
        Check.finish();
    }

    private static void save() {
        Sentence.of("Promise 26", "Stores the present state in a save slot.")
            .holds("save(0) = 0; make(0, 60) = 0; save(1) = 0; write(0, 0) = 3; restore(0) = 0; about(0) = 0",
                "restore(1) = 0; about(0) = 1")
            // a later one takes the place of an earlier one, in that slot alone
            .holds("make(0, 60) = 0; save(0) = 0; save(1) = 0; write(0, 0) = 3; save(0) = 1; write(0, 1) = 3",
                "restore(1) = 0; restore(0) = 1")
            .alike("make(0, 60); write(0, 0); save(0); write(0, 1); save(0)",
                "make(0, 60); write(0, 0); write(0, 1); save(0)");
        Sentence.of("Promise 26", "`slot`: 0 or 1")
            .holds("make(0, 60) = 0; save(LEAST) ! Index; save(-1) ! Index; save(0) = 0; save(1) = 0; save(2) ! Index",
                "save(MOST) ! Index");
        Sentence.of("Promise 26", "Returns the written pages of all.")
            .holds("save(0) = 0; make(0, 60) = 0; make(0, 60) = 1; write(1, 0) = 3; save(0) = 1; fill(0, 0, 39) = 3",
                "save(1) = 41; fill(1, 1, 19) = 3; save(0) = 60; write(1, 20) = 5; save(0) = 60; trim(1, 0) = 19",
                "save(0) = 59");
        Sentence.of("Promise 26", "Throws `IndexOutOfBoundsException` if there is no such save slot")
            .holds("save(-1) ! Index; save(2) ! Index; restore(0) ! State; restore(1) ! State; save(0) = 0",
                "restore(1) ! State; restore(0) = 0");
    }

    private static void restore() {
        Sentence.of("Promise 27", "Replaces the state by the one in a save slot, and forgets all remembered states. "
            + "The save slot keeps it.")
            .alike("device(Ds6060s0060r10029r00029); save(0); fill(0, 30, 39); make(0, 1); restore(0)",
                "device(Ds6060s0060r10029r00029); save(0)")
            .alike("device(Ds0060); write(0, 5); save(1); trim(0, 5); restore(1); write(0, 6); restore(1)",
                "device(Ds0060); write(0, 5); save(1); undo(); write(0, 5); restore(1)")
            .holds("make(0, 60) = 0; write(0, 0) = 3; save(0) = 1; restore(0) = 1; undo() ! State; write(0, 1) = 3",
                "undo() = 0; undo() ! State; write(0, 1) = 3; restore(0) = 1; about(1) = 1; restore(0) = 1",
                "restore(1) ! State")
            // a full history is forgotten as well, and fills again
            .holds("make(0, 60) = 0; save(1) = 0; fill(0, 0, 20) = 3; restore(1) = 0; undo() ! State",
                "fill(0, 0, 14) = 3; undo() = 13; about(1) = 14");
        Sentence.of("Promise 27", "`slot`: 0 or 1")
            .holds("save(0) = 0; save(1) = 0; restore(LEAST) ! Index; restore(-1) ! Index; restore(0) = 0",
                "restore(1) = 0; restore(2) ! Index; restore(MOST) ! Index");
        Sentence.of("Promise 27", "Returns the written pages of all then.")
            .holds("save(0) = 0; device(Ds0060s0060r00039r10019) = 0; save(1) = 60; trim(0, 0) = 39; restore(1) = 60",
                "trim(1, 0) = 19; save(0) = 59; restore(1) = 60; restore(0) = 59; about(1) = 59");
        Sentence.of("Promise 27", "Throws `IndexOutOfBoundsException` if there is no such save slot")
            .holds("restore(-1) ! Index; restore(2) ! Index; restore(0) ! State; save(0) = 0; restore(-1) ! Index",
                "restore(2) ! Index; restore(0) = 0");
        Sentence.of("Promise 27", "Throws `IllegalStateException` if nothing has been saved in it since the last load")
            .holds("restore(0) ! State; restore(1) ! State; save(1) = 0; restore(0) ! State; restore(1) = 0",
                "save(0) = 0; restore(0) = 0")
            .holds("save(0) = 0; save(1) = 0; device(D) = 0; restore(0) ! State; restore(1) ! State; save(0) = 0",
                "restore(1) ! State; restore(0) = 0")
            // a load that throws empties none
            .holds("save(0) = 0; save(1) = 0; text(x) = 1; load() ! State; restore(0) = 0; restore(1) = 0");
    }
}
