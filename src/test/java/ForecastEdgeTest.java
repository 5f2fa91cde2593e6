/** Promises 17 to 23 at the boundaries that the document names. Behind each of these calls all must be as before. */
final class ForecastEdgeTest {
    /** Space 0 lends 10 to space 1, and recalls from its 11th page on; space 2 is idle by 2. */
    private static final String WANTED = "device(Ds2060s0060s4040r20037r10009) = 0; ";
    /** The same, but that space 0 has written its first 10 pages, so that the next one is a recall. */
    private static final String RECALLING = "device(Ds2060s0060s4040r20037r10009r00009) = 0; ";

    public static void main(String[] args) {
        would();
        room();
        harm();
        victim();
        noisy();
        mostFloor();
        leastFloor();
        fiveSpaces();
        changeNothing();
        Check.finish();
    }

    private static void would() {
        Sentence.of("Promise 17", "Returns what write(s, page) would return.")
            .holds("make(1, 5); make(57, 57); would(0, 0) = 1; write(0, 0) = 1; would(0, 0) = 0; would(0, 1) = 3",
                "fill(0, 1, 2) = 3; would(0, 3) = 4; write(0, 3) = 4; would(0, 4) = 4; write(0, 4) = 4",
                "would(0, 5) = 5; about(8) = 0; write(0, 5) = 5; would(0, 4) = 0; would(1, 39) = 1; about(8) = 1")
            .holds(RECALLING, "would(0, 10) = 2; about(6) = 0; write(0, 10) = 2; would(0, 39) = 2; fill(0, 11, 19) = 2",
                "would(0, 20) = 5; trim(1, 39) ! State; trim(1, 9) = 1; would(0, 20) = 4; about(7) = 8");
        Sentence.of("Promise 17", "Throws `IndexOutOfBoundsException` if there is no such space or page")
            .holds("device(Ds0060s0060w000) = 0; would(LEAST, 0) ! Index; would(-1, 0) ! Index; would(1, 0) = 3",
                "would(2, 0) ! Index; would(5, 0) ! Index; would(MOST, 0) ! Index; would(0, LEAST) ! Index",
                "would(0, -1) ! Index; would(0, 0) = 0; would(0, 39) = 3; would(0, 40) ! Index; would(0, MOST) ! Index",
                "would(2, 40) ! Index");
    }

    private static void room() {
        Sentence.of("Promise 18", "Returns how many more pages could be written, one after the other, if it had as "
            + "many pages as it needs, and nobody else did anything.")
            // more than the 40 pages
            .holds("make(0, 60); room(0) = 60; fill(0, 0, 39) = 3; room(0) = 20; trim(0, 0) = 39; room(0) = 21",
                "setCeiling(0, 40) = 60; room(0) = 1; setCeiling(0, 39) = 40; room(0) = 0; setCeiling(0, 38) = 39",
                "room(0) = 0; setCeiling(0, 41) = 38; room(0) = 2")
            .holds("make(0, 1); room(0) = 1; write(0, 39) = 3; room(0) = 0; trim(0, 39) = 0; room(0) = 1")
            .holds("make(60, 60); room(0) = 60; make(0, 60); room(1) = 60; fill(0, 0, 39) = 1; room(1) = 20",
                "room(0) = 20; fill(1, 0, 19) = 4; room(1) = 0; room(0) = 20; make(0, 60) = 2; room(2) = 0",
                "trim(1, 0) = 19; room(2) = 1")
            // own floor, recalls, common room and loans together, each with what it gives
            .holds("make(10, 60); make(30, 60); fill(0, 0, 4) = 1; room(0) = 55; room(1) = 55; fill(1, 0, 9) = 1",
                "room(0) = 45; room(1) = 45")
            .holds(RECALLING, "room(0) = 10; room(1) = 2; room(2) = 2; setFloor(2, 38) = 40; room(0) = 10; room(1) = 2",
                "room(2) = 2; setFloor(1, 1) = 0; room(1) = 2; room(0) = 10; about(6) = 0")
            .holds("make(60, 60); make(0, 9); room(1) = 9; fill(1, 0, 8) = 4; room(1) = 0; room(0) = 60");
        Sentence.of("Promise 18", "Throws `IndexOutOfBoundsException` if there is no such space")
            .holds(WANTED, "room(LEAST) ! Index; room(-1) ! Index; room(0) = 20; room(2) = 2; room(3) ! Index",
                "room(5) ! Index; room(MOST) ! Index; make(0, 7) = 3; room(3) = 7; room(4) ! Index");
    }

    private static void harm() {
        Sentence.of("Promise 19", "`n`: 0 to 60")
            .holds(WANTED, "harm(0, LEAST) ! Argument; harm(0, -1) ! Argument; harm(0, 0) = 0; harm(0, 60) = 8",
                "harm(0, 61) ! Argument; harm(0, MOST) ! Argument")
            .holds("make(0, 1); harm(0, 0) = 0; harm(0, 60) = 0; harm(0, 61) ! Argument");
        Sentence.of("Promise 19", "Returns how many pages of others would be lost if it wrote n more pages (or as "
            + "many as it could, if these are fewer), likewise.")
            .holds(WANTED, "harm(0, 12) = 0; harm(0, 13) = 1; harm(0, 14) = 2; harm(0, 19) = 7; harm(0, 20) = 8",
                "harm(0, 21) = 8; harm(0, 60) = 8; harm(1, 60) = 0; harm(2, 60) = 0; setCeiling(0, 20) = 60",
                "harm(0, 60) = 8")
            .holds(RECALLING, "harm(0, 2) = 0; harm(0, 3) = 1; fill(0, 10, 12) = 2; about(7) = 1; harm(0, 0) = 0",
                "harm(0, 1) = 1; harm(0, 60) = 7; fill(0, 13, 19) = 2; about(7) = 8; harm(0, 60) = 0")
            // a ceiling keeps it from more, and more pages than there are can be lost for
            .holds("device(Ds6060s0060s0060r10029r20029) = 0; harm(0, 1) = 1; harm(0, 59) = 59; harm(0, 60) = 60",
                "room(0) = 60; harm(1, 60) = 0")
            .holds("device(Ds1010s0060s0060s5050r30039r10009r20009) = 0; about(1) = 60; loans(1, 0) = 5",
                "loans(2, 0) = 5; harm(0, 10) = 10; harm(0, 11) = 10; harm(0, 60) = 10; harm(3, 10) = 10",
                "harm(3, 9) = 9");
        Sentence.of("Promise 19", "Throws `IndexOutOfBoundsException` if there is no such space")
            .holds(WANTED, "harm(LEAST, 0) ! Index; harm(-1, 0) ! Index; harm(2, 0) = 0; harm(3, 0) ! Index",
                "harm(5, 0) ! Index; harm(MOST, 0) ! Index; harm(3, 61) ! Index; harm(-1, -1) ! Index");
        Sentence.of("Promise 19", "Throws `IllegalArgumentException` if n is out of range")
            .holds(WANTED, "harm(2, -1) ! Argument; harm(2, 0) = 0; harm(2, 60) = 0; harm(2, 61) ! Argument");
    }

    private static void victim() {
        Sentence.of("Promise 20", "Returns the space that would lose a page first if it wrote more and more pages, "
            + "likewise; NONE if none would.")
            .holds(RECALLING, "victim(0) = 1; victim(1) = -1; victim(2) = -1; setCeiling(0, 20) = 60; victim(0) = 1")
            // the loss comes with the last of 60 pages
            .holds("device(Ds6060s0060w100) = 0; harm(0, 59) = 0; harm(0, 60) = 1; victim(0) = 1; victim(1) = -1",
                "room(0) = 60; room(1) = 59")
            // the ceiling ends it one page before the loss, and at it
            .holds("device(Ds0020s6060s0060) = 0; about(3) = 0; fill(0, 0, 9) = 4; victim(1) = 0; setFloor(1, 50) = 60",
                "make(10, 60) = 3; setCeiling(1, 50) = 60; harm(1, 60) = 0; victim(1) = -1; setFloor(1, 51) ! State")
            .holds("device(Ds0510s5560r00009) = 0; victim(1) = 0; victim(0) = -1; harm(1, 50) = 0; harm(1, 51) = 1",
                "setCeiling(1, 55) = 60; victim(1) = 0")
            .holds("device(Ds6060s0060s0060r10009r20009) = 0; victim(0) = 1; trim(1, 0) = 9; victim(0) = 2",
                "trim(2, 0) = 9; victim(0) = 1; victim(1) = -1; victim(2) = -1")
            // the greatest borrower moves to its own floor, so that another one is the first to lose
            .holds("device(Ds4060s0060s0060s2020r30019r10019r20018) = 0; loans(1, 0) = 20; about(1) = 59",
                "setFloor(3, 20) = 20; victim(0) = 1; trim(3, 19) = 19; trim(3, 18) = 18; setFloor(3, 18) = 20",
                "setFloor(1, 2) = 0; space(1, 7) = 2; harm(0, 3) = 0; harm(0, 4) = 1; victim(0) = 2")
            // what was lost before does not count
            .holds("device(Ds6060s0060s0060r10019r20009r00030) = 0; about(7) = 1; space(1, 9) = 1; victim(0) = 1",
                Sentence.each("trim(1, #)", 1, 10), "loans(1, 0) = 9; loans(2, 0) = 10; space(0, 7) = 10",
                "victim(0) = 2; victim(1) = -1; victim(2) = -1; harm(0, 10) = 0; harm(0, 11) = 1")
            .holds("device(Ds6060s0060s0060r10009r20019r00039) = 0; about(7) = 10; space(2, 9) = 10; loans(1, 0) = 10",
                "loans(2, 0) = 10; victim(0) = 1");
        Sentence.of("Promise 20", "Throws `IndexOutOfBoundsException` if there is no such space")
            .holds(WANTED, "victim(LEAST) ! Index; victim(-1) ! Index; victim(0) = 1; victim(2) = -1",
                "victim(3) ! Index; victim(5) ! Index; victim(MOST) ! Index");
    }

    private static void noisy() {
        Sentence.of("Promise 21", "Returns the space for which (the recalls that it made so far) - 2 * (the pages "
            + "that it lost so far) is greatest, among several the lowest; NONE without spaces.")
            .holds("noisy() = -1; make(0, 60) = 0; noisy() = 0; make(0, 60) = 1; noisy() = 0; undo() = 1; noisy() = 0",
                "undo() = 0; noisy() = -1")
            .holds("device(Ds0060s6060r00029r10029) = 0; noisy() = 0; write(1, 30) = 2; noisy() = 1; undo() = 0",
                "noisy() = 0")
            // the loser is below the one that nothing happened to
            .holds("device(Ds0060s0060s6060r00029r20029) = 0; write(2, 30) = 2; noisy() = 2; space(0, 9) = 1")
            .holds("device(Ds0060s0060s3060s3030r00039r30029r20009) = 0; about(1) = 60; space(0, 9) = 20",
                "space(3, 8) = 20; noisy() = 3; fill(2, 10, 18) = 2; space(2, 8) = 19; noisy() = 3; write(2, 19) = 2",
                "space(2, 8) = 20; noisy() = 2")
            // 10 recalls against 0 are outweighed by more than 5 lost pages, 5 leave the lowest of two
            .holds("device(Ds0060s3060s3040r20039r10029) = 0; space(1, 8) = 10; space(2, 9) = 10; trim(2, 39) = 29",
                "trim(2, 38) = 28; trim(2, 37) = 27; trim(2, 36) = 26; trim(2, 35) = 25; trim(2, 34) = 24",
                "fill(1, 30, 35) = 4; space(1, 5) = 6; fill(2, 0, 3) = 2; space(1, 9) = 4; noisy() = 1",
                "write(2, 4) = 2; space(1, 9) = 5; noisy() = 0; write(2, 5) = 2; space(1, 9) = 6; noisy() = 0",
                "space(2, 8) = 6; undo() = 13; noisy() = 0; undo() = 12; noisy() = 1");
    }

    private static void mostFloor() {
        Sentence.of("Promise 22", "Returns the greatest floor that setFloor() would take now.")
            .holds("make(0, 60); mostFloor(0) = 60; setFloor(0, 60) = 0; mostFloor(0) = 60; setFloor(0, 0) = 60",
                "make(1, 60); mostFloor(0) = 59; setFloor(0, 60) ! State; setFloor(0, 59) = 0; mostFloor(1) = 1",
                "setFloor(1, 2) ! State; setFloor(1, 1) = 1")
            .holds("make(0, 20); mostFloor(0) = 20; setFloor(0, 21) ! State; setCeiling(0, 1) = 20; mostFloor(0) = 1",
                "setFloor(0, 1) = 0; mostFloor(0) = 1; setFloor(0, 2) ! State")
            .holds("make(0, 60); make(0, 60); fill(0, 0, 9) = 3; mostFloor(1) = 50; setFloor(1, 51) ! State",
                "mostFloor(0) = 50; setFloor(0, 51) ! State; setFloor(0, 50) = 0; mostFloor(0) = 50; mostFloor(1) = 0",
                "trim(0, 0) = 9; mostFloor(1) = 1; mostFloor(0) = 51");
        Sentence.of("Promise 22", "Throws `IndexOutOfBoundsException` if there is no such space")
            .holds(WANTED, "mostFloor(LEAST) ! Index; mostFloor(-1) ! Index; mostFloor(0) = 20; mostFloor(2) = 40",
                "mostFloor(3) ! Index; mostFloor(5) ! Index; mostFloor(MOST) ! Index");
    }

    private static void leastFloor() {
        Sentence.of("Promise 23", "Returns the smallest floor that setFloor() would take now.")
            .holds("make(5, 60); leastFloor(0) = 0; setFloor(0, 0) = 5; leastFloor(0) = 0; setFloor(0, 60) = 0",
                "leastFloor(0) = 0; write(0, 0) = 1; leastFloor(0) = 1; setFloor(0, 0) ! State; setFloor(0, 1) = 60",
                "leastFloor(0) = 1; write(0, 1) = 3; leastFloor(0) = 1")
            .holds(RECALLING, "leastFloor(0) = 20; setFloor(0, 19) ! State; trim(1, 0) = 9; leastFloor(0) = 19",
                "setFloor(0, 18) ! State; trim(0, 0) = 9; leastFloor(0) = 18; setFloor(0, 17) ! State",
                "setFloor(0, 18) = 20; leastFloor(1) = 0; leastFloor(2) = 38");
        Sentence.of("Promise 23", "Throws `IndexOutOfBoundsException` if there is no such space")
            .holds(WANTED, "leastFloor(LEAST) ! Index; leastFloor(-1) ! Index; leastFloor(0) = 10; leastFloor(2) = 38",
                "leastFloor(3) ! Index; leastFloor(5) ! Index; leastFloor(MOST) ! Index");
    }

    private static void fiveSpaces() {
        Sentence.of("Promise 20", "NONE if none would.")
            .holds("device(Ds1560s1560s1560s1560s0060r40039) = 0; room(4) = 20; room(0) = 20; harm(0, 60) = 0",
                "harm(4, 60) = 0", Sentence.each("victim(#) = -1", 0, 4), "fill(1, 0, 4) = 1; fill(2, 0, 4) = 1",
                "fill(3, 0, 4) = 1; victim(0) = 4; victim(4) = -1; harm(0, 5) = 0; harm(0, 6) = 1; harm(0, 60) = 10",
                "room(0) = 15; room(4) = 5; noisy() = 0; mostFloor(4) = 0; leastFloor(4) = 0; leastFloor(3) = 15",
                "would(4, 0) = 0")
            .holds("device(Ds0060s0060s0060s0060s6060r30009r20008) = 0; victim(4) = 3; victim(3) = -1",
                "harm(4, 60) = 19; room(4) = 60; room(3) = 41");
    }

    private static void changeNothing() {
        Sentence.of("Ahead of the calls `would`,", "what would be; these and all following methods up to the save "
            + "slots change nothing.")
            .alike("make(20, 60); make(0, 60); fill(1, 0, 39); save(0); write(0, 0)",
                "make(20, 60); make(0, 60); fill(1, 0, 39); save(0); write(0, 0); would(0, 1) = 1; room(0) = 19; "
                    + "harm(0, 60) = 0; victim(0) = -1; noisy() = 0; mostFloor(0) = 20; leastFloor(0) = 1; "
                    + "runScript(3, 100011000210003); simulate(5, 99)")
            .holds(RECALLING, "make(0, 60); save(1); write(0, 10) = 2; would(0, 11) = 2; room(0) = 9; harm(0, 60) = 8",
                "victim(0) = 1; noisy() = 0; mostFloor(1) = 0; leastFloor(1) = 0; runScript(3, 100111001210013) = -1",
                "runScript(1, 99999) = 0; simulate(-3, 99)");
    }
}
