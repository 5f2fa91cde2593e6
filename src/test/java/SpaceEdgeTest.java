/** What the document says of spaces and room, and promises 1 and 6 to 10, at the boundaries that it names. */
final class SpaceEdgeTest {
    private static final String ROOM = "SPACES AND ROOM";

    /**
     * Space 1 borrowed 10 blocks of space 0 and 20 of space 2; then space 0 recalled 3, which moved to
     * space 2, and space 2 recalled 2, for which pages 0 and 1 were lost; 4 writes of them are refused.
     */
    private static final String LENT = "device(Ds2060s0060s3040r10039r00012r20008r10001r10001) = 0; ";

    public static void main(String[] args) {
        calls();
        newObject();
        blocks();
        bounds();
        pages();
        times();
        idleAndFree();
        about();
        space();
        loans();
        time();
        oldest();
        Check.finish();
    }

    private static void calls() {
        Sentence.of("What it is", "An object is used for at most 512 calls after it has been made")
            .holds("make(0, 60) = 0; write(0, 39) = 3", Sentence.each("write(0, 39) = 0", 2, 510), "about(5) = 510")
            .holds("make(60, 60) = 0; make(0, 60) = 1; fill(1, 0, 39) = 4; fill(0, 0, 19) = 1; write(0, 20) = 2",
                "trim(0, 20) = 20", Sentence.each("write(1, 39) = 0", 1, 446), "about(5) = 507; about(7) = 1");
    }

    private static void newObject() {
        Sentence.of("Promise 1", "Creates a device without spaces.")
            .holds("about(0) = 0; about(1) = 0; about(2) = 60; about(3) = 60", Sentence.each("about(#) = 0", 4, 8),
                "noisy() = -1; clearText() = 0; errorPosition() = 0")
            .holds("space(0, 0) ! Index; loans(0, 0) ! Index; time(0, 0) ! Index; oldest(0, 0) ! Index",
                "write(0, 0) ! Index; trim(0, 0) ! Index; setFloor(0, 0) ! Index; setCeiling(0, 1) ! Index",
                "would(0, 0) ! Index; room(0) ! Index; harm(0, 0) ! Index; victim(0) ! Index; mostFloor(0) ! Index",
                "leastFloor(0) ! Index; undo() ! State; load() ! State; restore(0) ! State; restore(1) ! State")
            .holds("make(0, 1) = 0; space(0, 0) = 0; about(0) = 1");
        Sentence.of("The constants:", "`NONE = -1`: There is no such result.");
        Check.same("NONE", String.valueOf(LentRoom.NONE), "-1");
    }

    private static void blocks() {
        Sentence.of(ROOM, "The device has 60 blocks of room.")
            .holds("make(0, 60); make(0, 60); fill(0, 0, 39) = 3; fill(1, 0, 18) = 3; about(1) = 59; room(1) = 1",
                "write(1, 19) = 3; about(1) = 60; about(3) = 0; room(1) = 0; would(1, 20) = 5; write(1, 20) = 5",
                "about(1) = 60; about(8) = 1")
            .holds("make(60, 60); make(0, 60); fill(0, 0, 38) = 1; fill(1, 0, 20) = 4; about(1) = 60; write(1, 21) = 5",
                "about(1) = 60; trim(0, 0) = 38; write(1, 21) = 4; about(1) = 60; write(1, 22) = 5");
        Sentence.of(ROOM, "There are at most 5 spaces, numbered from 0 in the order in which they were made")
            .holds("make(0, 1) = 0; make(1, 2) = 1; make(2, 3) = 2; make(3, 4) = 3; space(4, 0) ! Index",
                "make(4, 5) = 4; about(0) = 5; make(0, 1) ! State; about(0) = 5",
                Sentence.each("space(#, 0) = #", 0, 4), "space(0, 1) = 1; space(4, 1) = 5; space(5, 0) ! Index",
                "undo() = 4; make(0, 9) = 4; make(0, 9) ! State")
            // the fifth one borrows of all others, and lends to the first one, as any other does
            .holds("device(Ds1560s1560s1560s1560s0060r40039) = 0; space(4, 2) = 40; space(4, 5) = 40; about(4) = 40",
                "about(1) = 40", Sentence.each("loans(4, #) = 10; space(#, 6) = 10; space(#, 7) = 5", 0, 3),
                "fill(1, 0, 4) = 1; fill(2, 0, 4) = 1; fill(3, 0, 4) = 1; fill(0, 0, 4) = 1; about(1) = 60",
                "write(4, 0) = 0; write(0, 5) = 2; space(4, 9) = 1; time(4, 1) = -1; loans(4, 0) = 9; about(6) = 1",
                "about(7) = 1; trim(4, 0) = 38; loans(4, 1) = 9; write(4, 1) = 4; loans(4, 1) = 10; write(4, 0) = 5",
                "space(4, 10) = 1; about(8) = 1; noisy() = 0")
            .holds("device(Ds0060s0001s0001s0001s6060r00039) = 0; loans(0, 4) = 40; fill(4, 0, 19) = 1",
                "write(4, 20) = 2; loans(0, 4) = 39; space(4, 8) = 1; space(4, 3) = 21; space(0, 9) = 1; about(6) = 1",
                "trim(0, 39) = 38; space(4, 6) = 38; space(4, 7) = 1; noisy() = 4; oldest(4, 20) = 20",
                "oldest(4, 21) = -1; time(4, 20) = 61; leastFloor(4) = 59");
    }

    private static void bounds() {
        Sentence.of(ROOM, "each has a floor, 0 to 60, and a ceiling, from the floor (at least 1) to 60.")
            .holds("make(-1, 60) ! Argument; make(0, 60) = 0; make(61, 60) ! Argument; make(61, 61) ! Argument",
                "make(60, 60) = 1; space(0, 0) = 0; space(1, 0) = 60")
            .holds("make(0, -1) ! Argument; make(0, 0) ! Argument; make(0, 1) = 0; make(0, 61) ! Argument",
                "make(0, 60) = 1; make(1, 0) ! Argument; make(1, 1) = 2; make(30, 29) ! Argument; make(30, 30) = 3",
                "space(0, 1) = 1; space(1, 1) = 60; space(2, 1) = 1; space(3, 1) = 30; make(29, 30) = 4")
            .holds("make(60, 59) ! Argument; make(59, 59) = 0; make(59, 60) ! State")
            .holds("make(0, 20) = 0; setFloor(0, 20) = 0; setFloor(0, 0) = 20; setCeiling(0, 1) = 20",
                "setFloor(0, 1) = 0; setCeiling(0, 0) ! Argument; setFloor(0, 2) ! State");
        Sentence.of(ROOM, "The floors of all together are at most 60; the rest is common room.")
            .holds("about(2) = 60; make(30, 60); make(29, 60); about(2) = 1; make(2, 60) ! State; make(1, 60) = 2",
                "about(2) = 0; make(1, 1) ! State; make(0, 1) = 3; setFloor(3, 1) ! State; setFloor(2, 0) = 1",
                "about(2) = 1; setFloor(3, 1) = 0; about(2) = 0; setFloor(2, 1) ! State")
            .holds("make(60, 60) = 0; about(2) = 0; setFloor(0, 0) = 60; about(2) = 60");
    }

    private static void pages() {
        Sentence.of(ROOM, "A space has pages 0 to 39; a page is written or not; each written page takes one block of "
            + "room")
            .holds("make(0, 60); time(0, 0) = -1; time(0, 39) = -1; write(0, -1) ! Index; write(0, 40) ! Index",
                "would(0, -1) ! Index; would(0, 0) = 3; would(0, 39) = 3; would(0, 40) ! Index; write(0, 0) = 3",
                "about(3) = 59; write(0, 39) = 3; about(3) = 58; about(1) = 2; time(0, -1) ! Index; time(0, 0) = 1",
                "time(0, 39) = 2; time(0, 40) ! Index; trim(0, -1) ! Index; trim(0, 40) ! Index; trim(0, 39) = 1",
                "about(3) = 59; trim(0, 0) = 0; about(3) = 60; time(0, 0) = -1; time(0, 39) = -1; trim(0, 0) ! State")
            .holds("make(0, 60); fill(0, 0, 39) = 3; space(0, 2) = 40; about(3) = 20; room(0) = 20",
                Sentence.each("write(0, #) = 0", 0, 39), "space(0, 2) = 40; about(5) = 80");
        Sentence.of(ROOM, "backed by the space's own floor, by common room, or by the floor of another space, which "
            + "lends it")
            .holds("make(1, 60); make(58, 60); write(0, 0) = 1; space(0, 3) = 1; write(0, 1) = 3; space(0, 4) = 1",
                "write(0, 2) = 4; space(0, 5) = 1; loans(0, 1) = 1; space(1, 6) = 1; space(0, 2) = 3; about(4) = 1");
    }

    private static void times() {
        Sentence.of(ROOM, "the time is 0 at first, and becomes greater by 1 with each write that is not refused, "
            + "which has the time then.")
            .holds("about(5) = 0; make(0, 2); about(5) = 0; write(0, 5) = 3; about(5) = 1; time(0, 5) = 1",
                "write(0, 5) = 0; about(5) = 2; time(0, 5) = 2; write(0, 6) = 3; time(0, 6) = 3; time(0, 5) = 2",
                "write(0, 7) = 5; about(5) = 3; time(0, 7) = -1; trim(0, 6) = 1; about(5) = 3; setFloor(0, 1)",
                "about(5) = 3; setCeiling(0, 3); about(5) = 3; write(0, 7) = 1; about(5) = 4; time(0, 7) = 4",
                "time(0, 6) = -1; make(0, 9) = 1; write(1, 0) = 3; time(1, 0) = 5; undo() = 10; about(5) = 4");
    }

    private static void idleAndFree() {
        Sentence.of(ROOM, "own is how many of its pages its own floor backs, common how many common room backs, and "
            + "it has loans from others.")
            .holds(LENT, "space(1, 2) = 38; space(1, 3) = 0; space(1, 4) = 10; space(1, 5) = 28; space(0, 2) = 13",
                "space(0, 3) = 13; space(0, 4) = 0; space(0, 5) = 0; trim(1, 2) = 37; space(1, 5) = 27")
            .holds("make(0, 60); space(0, 3) = 0; space(0, 4) = 0; space(0, 5) = 0; write(0, 0) = 3; space(0, 4) = 1");
        Sentence.of(ROOM, "Its floor is idle by the floor less own less what it lends.")
            .holds("make(2, 60); make(58, 60); space(0, 7) = 2; write(0, 0) = 1; space(0, 7) = 1; write(0, 1) = 1",
                "space(0, 7) = 0; write(0, 2) = 4; space(1, 7) = 57; fill(1, 0, 39) = 1; space(1, 7) = 17",
                "fill(0, 3, 19) = 4; space(1, 7) = 0; space(1, 6) = 18; space(1, 3) = 40; write(0, 20) = 5",
                "trim(0, 2) = 19; space(1, 7) = 1; space(1, 6) = 17; write(0, 20) = 4; space(1, 7) = 0");
        Sentence.of(ROOM, "The common room is free by 60 less the floors of all less the common of all.")
            .holds("about(3) = 60; make(0, 60); fill(0, 0, 39) = 3; about(3) = 20; about(2) = 60; make(21, 60) ! State",
                "make(20, 60) = 1; about(3) = 0; about(2) = 40; setFloor(1, 21) ! State; trim(0, 0) = 39; about(3) = 1",
                "write(0, 0) = 3; about(3) = 0; trim(0, 0) = 39; setFloor(1, 21) = 20; about(3) = 0; write(0, 0) = 4");
    }

    private static void about() {
        Sentence.of("Promise 6", "`what`: 0: the spaces; 1: the written pages of all; 2: the common room; 3: by how "
            + "much it is free; 4: the loans of all; 5: the time; 6: the recalls so far; 7: the pages that were lost "
            + "so far; 8: the writes that were refused so far")
            .holds(LENT, "about(0) = 3; about(1) = 60; about(2) = 10; about(3) = 0; about(4) = 28; about(5) = 62",
                "about(6) = 5; about(7) = 2; about(8) = 4")
            .holds("device(D); about(0) = 0; about(1) = 0; about(2) = 60; about(3) = 60",
                Sentence.each("about(#) = 0", 4, 8));
        Sentence.of("Promise 6", "Throws `IllegalArgumentException` if what is not 0 to 8")
            .holds(LENT, "about(LEAST) ! Argument; about(-1) ! Argument; about(0) = 3; about(8) = 4",
                "about(9) ! Argument; about(MOST) ! Argument")
            .holds("about(-1) ! Argument; about(0) = 0; about(8) = 0; about(9) ! Argument");
    }

    private static void space() {
        Sentence.of("Promise 7", "`what`: 0: its floor; 1: its ceiling; 2: its written pages; 3: own; 4: common; 5: "
            + "its loans from others, together; 6: what it lends; 7: by how much its floor is idle; 8: the recalls "
            + "that it made so far; 9: the pages that it lost so far; 10: its writes that were refused so far")
            .holds(LENT, "space(0, 0) = 20; space(0, 1) = 60; space(0, 2) = 13; space(0, 3) = 13; space(0, 4) = 0",
                "space(0, 5) = 0; space(0, 6) = 7; space(0, 7) = 0; space(0, 8) = 3; space(0, 9) = 0",
                "space(0, 10) = 0")
            .holds(LENT, "space(1, 0) = 0; space(1, 1) = 60; space(1, 2) = 38; space(1, 3) = 0; space(1, 4) = 10",
                "space(1, 5) = 28; space(1, 6) = 0; space(1, 7) = 0; space(1, 8) = 0; space(1, 9) = 2",
                "space(1, 10) = 4")
            .holds(LENT, "space(2, 0) = 30; space(2, 1) = 40; space(2, 2) = 9; space(2, 3) = 9; space(2, 4) = 0",
                "space(2, 5) = 0; space(2, 6) = 21; space(2, 7) = 0; space(2, 8) = 2; space(2, 9) = 0",
                "space(2, 10) = 0; trim(2, 0) = 8; space(2, 7) = 1");
        Sentence.of("Promise 7", "Throws `IndexOutOfBoundsException` if there is no such space")
            .holds(LENT, "space(LEAST, 0) ! Index; space(-1, 0) ! Index; space(0, 0) = 20; space(2, 0) = 30",
                "space(3, 0) ! Index; space(5, 0) ! Index; space(MOST, 0) ! Index; make(0, 1) = 3; space(3, 0) = 0",
                "space(4, 0) ! Index");
        Sentence.of("Promise 7", "Throws `IllegalArgumentException` if what is not 0 to 10")
            .holds(LENT, "space(1, LEAST) ! Argument; space(1, -1) ! Argument; space(1, 0) = 0; space(1, 10) = 4",
                "space(1, 11) ! Argument; space(1, MOST) ! Argument; space(3, 11) ! Index; space(-1, -1) ! Index");
    }

    private static void loans() {
        Sentence.of("Promise 8", "Returns how many blocks the lender lends it (0 if both are the same).")
            .holds(LENT, "loans(1, 0) = 7; loans(1, 2) = 21; loans(0, 1) = 0; loans(2, 1) = 0; loans(0, 2) = 0",
                "loans(2, 0) = 0", Sentence.each("loans(#, #) = 0", 0, 2));
        Sentence.of("Promise 8", "Throws `IndexOutOfBoundsException` if there is no such space")
            .holds(LENT, "loans(LEAST, 0) ! Index; loans(-1, 0) ! Index; loans(0, -1) ! Index; loans(0, LEAST) ! Index",
                "loans(0, 2) = 0; loans(0, 3) ! Index; loans(2, 0) = 0; loans(3, 0) ! Index; loans(3, 3) ! Index",
                "loans(MOST, 0) ! Index; loans(0, MOST) ! Index; loans(5, 0) ! Index; loans(0, 5) ! Index",
                "make(0, 1) = 3; loans(3, 3) = 0; loans(0, 3) = 0; loans(3, 0) = 0; loans(3, 4) ! Index");
    }

    private static void time() {
        Sentence.of("Promise 9", "Returns its time; NONE if it is not written.")
            .holds("make(0, 60); time(0, 0) = -1; write(0, 0) = 3; time(0, 0) = 1; time(0, 1) = -1; trim(0, 0) = 0",
                "time(0, 0) = -1")
            .holds(LENT, "time(1, 0) = -1; time(1, 1) = -1; time(1, 2) = 3; time(1, 39) = 40; time(0, 0) = 41",
                "time(0, 12) = 53; time(0, 13) = -1; time(2, 8) = 62; time(2, 9) = -1");
        Sentence.of("Promise 9", "Throws `IndexOutOfBoundsException` if there is no such space or page")
            .holds(LENT, "time(LEAST, 0) ! Index; time(-1, 0) ! Index; time(2, 0) = 54; time(3, 0) ! Index",
                "time(MOST, 0) ! Index; time(1, LEAST) ! Index; time(1, -1) ! Index; time(1, 39) = 40",
                "time(1, 40) ! Index; time(1, MOST) ! Index; time(3, 40) ! Index; time(-1, -1) ! Index");
    }

    private static void oldest() {
        Sentence.of("Promise 10", "`i`: which one, from 0: the one with the least time first")
            .holds("device(Ds0060w007w003w039w003w000) = 0; oldest(0, 0) = 7; oldest(0, 1) = 39; oldest(0, 2) = 3",
                "oldest(0, 3) = 0")
            .holds("device(Ds0060w039) = 0; oldest(0, 0) = 39")
            .holds(LENT, "oldest(1, 0) = 2; oldest(1, 37) = 39; oldest(0, 0) = 0; oldest(0, 12) = 12");
        Sentence.of("Promise 10", "Returns the page; NONE if there are not so many.")
            .holds("make(0, 60); oldest(0, 0) = -1; write(0, 5) = 3; oldest(0, 0) = 5; oldest(0, 1) = -1",
                "oldest(0, MOST) = -1; trim(0, 5) = 0; oldest(0, 0) = -1")
            .holds("make(0, 60); oldest(0, 1) = -1; oldest(0, 39) = -1; fill(0, 4, 5) = 3; oldest(0, 1) = 5",
                "oldest(0, 2) = -1; oldest(0, 3) = -1; oldest(0, 38) = -1; oldest(0, 39) = -1; oldest(0, 40) = -1")
            .holds("device(Ds0060r00039w000) = 0; oldest(0, 0) = 1; oldest(0, 38) = 39; oldest(0, 39) = 0",
                "oldest(0, 40) = -1; oldest(0, 41) = -1; oldest(0, MOST) = -1");
        Sentence.of("Promise 10", "Throws `IndexOutOfBoundsException` if there is no such space")
            .holds(LENT, "oldest(LEAST, 0) ! Index; oldest(-1, 0) ! Index; oldest(2, 0) = 0; oldest(3, 0) ! Index",
                "oldest(MOST, 0) ! Index; oldest(3, -1) ! Index");
        Sentence.of("Promise 10", "Throws `IllegalArgumentException` if i is negative")
            .holds(LENT, "oldest(1, LEAST) ! Argument; oldest(1, -1) ! Argument; oldest(1, 0) = 2");
    }
}
