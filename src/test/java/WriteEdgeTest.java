/** What the document says of writing and trimming, and promises 12 and 13, at the boundaries that it names. */
final class WriteEdgeTest {
    private static final String WRITING = "WRITING";
    private static final String TRIMMING = "TRIMMING";

    /**
     * Space 0 lends space 1 all 10 blocks that it does not write itself, and wants the rest of its floor
     * back. Space 2 keeps its 38 pages in a floor of 40, so that it is idle by 2.
     */
    private static final String WANTED = "device(Ds2060s0060s4040r20037r10009r00009) = 0; ";

    public static void main(String[] args) {
        rewriting();
        ceiling();
        firstPossible();
        ownFloor();
        recalling();
        commonRoom();
        borrowing();
        noRoom();
        whoPays();
        paidFromOwnFloor();
        paidFromCommonRoom();
        paidByAnotherLender();
        paidWithThePage();
        write();
        freedLoans();
        freedRoom();
        trim();
        floors();
        Check.finish();
    }

    private static void rewriting() {
        Sentence.of(WRITING, "A write of a page that is written gives it another time.")
            .holds("make(0, 1); write(0, 39) = 3; write(0, 39) = 0; time(0, 39) = 2; about(1) = 1; about(3) = 59",
                "about(8) = 0")
            .holds("make(0, 3); fill(0, 0, 2) = 3; setCeiling(0, 1) = 3; write(0, 0) = 0; time(0, 0) = 4",
                "oldest(0, 0) = 1; write(0, 3) = 5; about(8) = 1")
            .holds("device(Ds6060s0060r00029r10029) = 0; about(1) = 60; write(0, 0) = 0; write(1, 0) = 0",
                "write(1, 29) = 0; about(1) = 60; about(7) = 0; about(8) = 0; space(1, 5) = 30; write(1, 30) = 5");
    }

    private static void ceiling() {
        Sentence.of(WRITING, "A write of another page is refused (nothing changes, but it is counted), if the space "
            + "has not fewer pages than its ceiling tells.")
            .holds("make(0, 2); write(0, 0) = 3; would(0, 1) = 3; write(0, 1) = 3; would(0, 2) = 5; space(0, 10) = 0",
                "write(0, 2) = 5; space(0, 10) = 1; about(8) = 1; time(0, 2) = -1; about(5) = 2; about(1) = 2",
                "about(3) = 58; oldest(0, 2) = -1; write(0, 2) = 5; space(0, 10) = 2; trim(0, 0) = 1; write(0, 2) = 3",
                "space(0, 10) = 2")
            .holds("make(0, 3); fill(0, 0, 2) = 3; setCeiling(0, 2) = 3; write(0, 3) = 5; trim(0, 0) = 2",
                "write(0, 3) = 5; trim(0, 1) = 1; write(0, 3) = 3; write(0, 4) = 5; space(0, 10) = 3")
            .holds("make(0, 5); fill(0, 0, 4) = 3; setFloor(0, 5) = 0; space(0, 7) = 5; write(0, 5) = 5",
                "space(0, 3) = 0; setCeiling(0, 6) = 5; write(0, 5) = 1; space(0, 3) = 1; write(0, 6) = 5")
            .holds("make(0, 1) = 0; make(0, 60) = 1; write(0, 0) = 3; write(0, 1) = 5; write(1, 1) = 3",
                "space(1, 10) = 0");
    }

    private static void firstPossible() {
        Sentence.of(WRITING, "Otherwise it needs room, which comes by the first one of these that is possible:")
            // the own floor, common room and a lender all at once; then without the first, the second, the third
            .holds("make(1, 60); make(58, 60); write(0, 0) = 1; write(0, 1) = 3; write(0, 2) = 4; fill(1, 0, 39) = 1",
                "fill(0, 3, 19) = 4; write(0, 20) = 5")
            // a recall, common room and a lender; then without common room, and without either
            .holds(WANTED, "setFloor(2, 39) = 40; about(3) = 1; space(2, 7) = 1; write(0, 10) = 2; about(3) = 0",
                "write(0, 11) = 2; space(2, 7) = 0; write(0, 12) = 2; space(0, 3) = 13; space(0, 4) = 0",
                "space(0, 5) = 0")
            // the ceiling comes before all of them
            .holds("make(0, 2); fill(0, 0, 1) = 3; setFloor(0, 1) = 0; make(20, 60); space(0, 7) = 1; about(3) = 37",
                "write(0, 2) = 5");
    }

    private static void ownFloor() {
        Sentence.of(WRITING, "1. Own is less than the floor, and the floor is idle: own becomes greater by 1.")
            .holds("make(2, 60); would(0, 0) = 1; write(0, 0) = 1; space(0, 3) = 1; write(0, 1) = 1; space(0, 3) = 2",
                "would(0, 2) = 3; write(0, 2) = 3; space(0, 3) = 2; space(0, 4) = 1")
            .holds("make(0, 60); write(0, 0) = 3; space(0, 3) = 0; setFloor(0, 1) = 0; write(0, 1) = 1",
                "space(0, 3) = 1; space(0, 4) = 1")
            .holds("device(Ds6060s0060r10019) = 0; fill(0, 0, 38) = 1; space(0, 7) = 1; write(0, 39) = 1",
                "space(0, 7) = 0; about(6) = 0");
    }

    private static void recalling() {
        Sentence.of(WRITING, "2. Own is less than the floor (it lends the rest): a loan of it is recalled, and own "
            + "becomes greater by 1.")
            .holds("device(Ds6060s0060r10020) = 0; fill(0, 0, 38) = 1; would(0, 39) = 2; space(0, 8) = 0",
                "write(0, 39) = 2; space(0, 3) = 40; space(0, 6) = 20; space(0, 8) = 1; about(6) = 1; about(5) = 61")
            // while common room is free, and while the floor of another space is idle
            .holds(WANTED, "setFloor(2, 38) = 40; about(3) = 2; write(0, 10) = 2; space(0, 3) = 11; space(0, 4) = 0",
                "about(6) = 1")
            .holds(WANTED, "about(3) = 0; space(2, 7) = 2; write(0, 10) = 2; space(0, 3) = 11; space(0, 5) = 0",
                "about(6) = 1")
            // the whole floor is lent, and then none of it
            .holds("device(Ds0160s0060s5960r20038r10018) = 0; loans(1, 0) = 0; write(1, 19) = 4; loans(1, 0) = 1",
                "space(0, 3) = 0; space(0, 7) = 0; write(0, 0) = 2; space(0, 3) = 1; space(0, 6) = 0; write(0, 1) = 5",
                "space(0, 8) = 1");
    }

    private static void commonRoom() {
        Sentence.of(WRITING, "3. Common room is free: common becomes greater by 1.")
            .holds("make(0, 60); make(58, 60); would(0, 0) = 3; write(0, 0) = 3; about(3) = 1; space(0, 4) = 1",
                "write(0, 1) = 3; about(3) = 0; space(0, 4) = 2; would(0, 2) = 4; write(0, 2) = 4; space(0, 4) = 2",
                "space(1, 7) = 57")
            .holds("make(0, 60); make(0, 60); fill(0, 0, 39) = 3; fill(1, 0, 19) = 3; about(3) = 0; write(1, 20) = 5",
                "trim(0, 0) = 39; about(3) = 1; write(1, 20) = 3; space(1, 4) = 21");
    }

    private static void borrowing() {
        Sentence.of(WRITING, "4. The floor of another space is idle: the one whose floor is idle by most, of several "
            + "the lowest, lends it one more.")
            .holds("make(0, 60); make(19, 60); make(20, 60); make(21, 60); would(0, 0) = 4; write(0, 0) = 4",
                "loans(0, 3) = 1; write(0, 1) = 4; loans(0, 2) = 1; write(0, 2) = 4; loans(0, 3) = 2; write(0, 3) = 4",
                "loans(0, 1) = 1; write(0, 4) = 4; loans(0, 2) = 2; write(0, 5) = 4; loans(0, 3) = 3; about(4) = 6")
            .holds("make(20, 60); make(20, 60); make(0, 60); make(20, 60); write(2, 0) = 4; loans(2, 0) = 1",
                "write(2, 1) = 4; loans(2, 1) = 1; write(2, 2) = 4; loans(2, 3) = 1; write(2, 3) = 4",
                "loans(2, 0) = 2")
            // own pages and loans count alike against what is idle
            .holds("make(20, 60); make(20, 60); make(0, 60); make(20, 60); write(0, 0) = 1; write(2, 1) = 4",
                "loans(2, 1) = 1; write(2, 2) = 4; loans(2, 3) = 1; write(2, 3) = 4; loans(2, 0) = 1")
            .holds("make(60, 60); make(0, 60); fill(0, 0, 39) = 1; fill(1, 0, 18) = 4; space(0, 7) = 1",
                "write(1, 19) = 4; space(0, 7) = 0; would(1, 20) = 5; write(1, 20) = 5; loans(1, 0) = 20");
    }

    private static void noRoom() {
        Sentence.of(WRITING, "If none is, the write is refused, too.")
            .holds("make(20, 60); make(40, 60); fill(1, 0, 39) = 1; fill(0, 0, 18) = 1; would(0, 19) = 1",
                "write(0, 19) = 1; would(0, 20) = 5; write(0, 20) = 5; space(0, 10) = 1; about(8) = 1; about(5) = 60",
                "time(0, 20) = -1; about(1) = 60; trim(1, 0) = 39; write(0, 20) = 4; space(0, 10) = 1");
    }

    private static void whoPays() {
        Sentence.of(WRITING, "A recall is of the borrower that has most loans of the lender, of several the lowest;")
            .holds("device(Ds6060s0060s0060r10029r20029) = 0; loans(1, 0) = 30; loans(2, 0) = 30; write(0, 0) = 2",
                "loans(1, 0) = 29; loans(2, 0) = 30; space(1, 9) = 1; write(0, 1) = 2; loans(1, 0) = 29",
                "loans(2, 0) = 29; space(2, 9) = 1; write(0, 2) = 2; loans(1, 0) = 28; loans(2, 0) = 29")
            .holds("device(Ds0060s0060s6060r00028r10029) = 0; write(2, 0) = 1; loans(0, 2) = 29; loans(1, 2) = 30",
                "write(2, 1) = 2; loans(1, 2) = 29; write(2, 2) = 2; loans(0, 2) = 28; loans(1, 2) = 29",
                "space(0, 9) = 1; space(1, 9) = 1")
            // what a borrower has of another lender does not count
            .holds("device(Ds3060s3060s0060s0060r20029r30009) = 0; loans(2, 0) = 15; loans(3, 0) = 5",
                "fill(0, 0, 9) = 1; fill(1, 0, 9) = 1; trim(2, 0) = 29; trim(2, 1) = 28; trim(2, 2) = 27",
                "loans(2, 0) = 13; loans(2, 1) = 14; fill(3, 10, 12) = 4; loans(3, 0) = 7; loans(3, 1) = 6",
                "write(1, 10) = 2; loans(2, 1) = 13; loans(3, 1) = 6");
    }

    private static void paidFromOwnFloor() {
        Sentence.of(WRITING, "one loan of it ends, and its room comes by the first one of these that is possible: "
            + "its own floor, if that is idle; common room, if it is free; another lender")
            // one block is to be had in each way, and then none
            .holds("device(Ds2060s0060s4040r20036r10009r00009) = 0; setFloor(2, 38) = 40; setFloor(1, 1) = 0",
                "space(1, 7) = 1; about(3) = 1; space(2, 7) = 1; harm(0, 3) = 0; harm(0, 4) = 1; write(0, 10) = 2",
                "space(1, 3) = 1; space(1, 7) = 0; about(3) = 1; loans(1, 0) = 9; write(0, 11) = 2; space(1, 3) = 1",
                "space(1, 4) = 1; about(3) = 0; loans(1, 0) = 8; space(2, 7) = 1; write(0, 12) = 2; loans(1, 2) = 1",
                "loans(1, 0) = 7; space(1, 4) = 1; space(2, 7) = 0; about(7) = 0; space(1, 2) = 10; write(0, 13) = 2",
                "loans(1, 0) = 6; loans(1, 2) = 1; space(1, 2) = 9; about(7) = 1; space(1, 9) = 1; space(0, 8) = 4",
                "space(1, 8) = 0; space(0, 3) = 14");
        Sentence.of(WRITING, "its own floor, if that is idle;")
            .holds(WANTED, "setFloor(2, 38) = 40; setFloor(1, 2) = 0; about(3) = 0; write(0, 10) = 2; space(1, 3) = 1",
                "write(0, 11) = 2; space(1, 3) = 2; space(1, 7) = 0; about(7) = 0; space(1, 2) = 10; write(0, 12) = 2",
                "space(1, 3) = 2; about(7) = 1; space(1, 2) = 9; about(6) = 3");
    }

    private static void paidFromCommonRoom() {
        Sentence.of(WRITING, "common room, if it is free;")
            .holds(WANTED, "setFloor(2, 39) = 40; setFloor(2, 38) = 39; about(3) = 2; write(0, 10) = 2; about(3) = 1",
                "space(1, 4) = 1; write(0, 11) = 2; about(3) = 0; space(1, 4) = 2; about(7) = 0; time(1, 0) = 39",
                "write(0, 12) = 2; space(1, 4) = 2; about(7) = 1; time(1, 0) = -1");
    }

    private static void paidByAnotherLender() {
        Sentence.of(WRITING, "another lender (neither the borrower nor the one that recalls) whose floor is idle, by "
            + "most, of several the lowest;")
            .holds(WANTED, "write(0, 10) = 2; loans(1, 2) = 1; write(0, 11) = 2; loans(1, 2) = 2; space(2, 7) = 0",
                "about(7) = 0; write(0, 12) = 2; loans(1, 2) = 2; loans(1, 0) = 7; about(7) = 1; space(2, 6) = 2",
                "space(0, 6) = 7")
            .holds("device(Ds3060s0060s1560s1560r10014r00014) = 0; space(0, 7) = 0; loans(1, 0) = 15; write(0, 15) = 2",
                "loans(1, 2) = 1; write(0, 16) = 2; loans(1, 3) = 1; write(0, 17) = 2; loans(1, 2) = 2",
                "loans(1, 0) = 12; about(7) = 0")
            .holds("device(Ds1460s1560s0060s3160r20016r30014) = 0; loans(2, 3) = 16; loans(2, 1) = 1; space(3, 7) = 0",
                "space(1, 7) = 14; space(0, 7) = 14; write(3, 15) = 2; loans(2, 0) = 1; write(3, 16) = 2",
                "loans(2, 1) = 2; about(7) = 0");
    }

    private static void paidWithThePage() {
        Sentence.of(WRITING, "otherwise the borrower's page with the least time is not written any more (it is lost).")
            .holds("device(Ds6060s0060r10039w100r00019) = 0; about(1) = 60; write(0, 20) = 2; time(1, 0) = 41",
                "time(1, 1) = -1; space(1, 9) = 1; about(7) = 1; space(1, 2) = 39; oldest(1, 0) = 2; about(1) = 60",
                "space(0, 9) = 0; write(0, 21) = 2; time(1, 2) = -1; time(1, 3) = 4; space(1, 9) = 2; write(1, 1) = 5",
                "trim(1, 1) ! State")
            .holds("device(Ds6060s0060w139r10038r00019) = 0; write(0, 20) = 2; time(1, 39) = -1; time(1, 0) = 2")
            .holds("device(Ds0140s5960s0060r10038r20018w219) = 0; about(1) = 59; write(2, 20) = 4; about(1) = 60",
                "loans(2, 0) = 1; make(0, 1) = 3; write(3, 0) = 5; trim(2, 0) = 20; loans(2, 1) = 19; loans(2, 0) = 1",
                "write(3, 0) = 4; loans(3, 1) = 1; write(1, 39) = 2; loans(2, 1) = 18; about(7) = 1; space(3, 2) = 1")
            // the only page of the borrower
            .holds("device(Ds4060s2060s0060r10019r00038w200) = 0; loans(2, 0) = 1; about(1) = 60; write(0, 39) = 2",
                "space(2, 2) = 0; space(2, 9) = 1; time(2, 0) = -1; oldest(2, 0) = -1; loans(2, 0) = 0",
                "write(0, 39) = 0; about(6) = 1");
    }

    private static void write() {
        Sentence.of("Promise 12", "Returns 0 if it was written; 1 to 4: how its room came; 5 if the write is refused.")
            .holds("make(2, 10); make(57, 57); fill(1, 0, 39) = 1; fill(0, 0, 1) = 1; write(0, 2) = 3",
                "fill(0, 3, 9) = 4; write(0, 10) = 5; write(0, 9) = 0; loans(0, 1) = 7; trim(1, 0) = 39",
                "make(0, 60) = 2; fill(2, 0, 10) = 4; space(1, 7) = 0; write(1, 0) = 2; space(1, 3) = 40",
                "about(1) = 60; write(2, 0) = 5; write(2, 1) = 0; about(8) = 2");
        Sentence.of("Promise 12", "Throws `IndexOutOfBoundsException` if there is no such space or page")
            .holds("device(Ds0060s0060w000) = 0; write(LEAST, 0) ! Index; write(-1, 0) ! Index; write(2, 0) ! Index",
                "write(5, 0) ! Index; write(MOST, 0) ! Index; write(0, LEAST) ! Index; write(0, -1) ! Index",
                "write(0, 40) ! Index; write(0, MOST) ! Index; write(2, 40) ! Index; write(1, 0) = 3; write(0, 39) = 3",
                "write(0, 0) = 0; undo() = 2");
    }

    private static void freedLoans() {
        Sentence.of(TRIMMING, "When a written page is trimmed, it is not written any more, and room becomes free: a "
            + "loan ends, if the space has any, that of the lender from which it has most, of several the lowest;")
            // 2 own, 3 common, 2 loans of space 1 and 2 of space 2
            .holds("device(Ds0260s2760s2860r00008) = 0; loans(0, 1) = 2; loans(0, 2) = 2; trim(0, 8) = 8",
                "time(0, 8) = -1; loans(0, 1) = 1; loans(0, 2) = 2; trim(0, 7) = 7; loans(0, 1) = 1; loans(0, 2) = 1",
                "space(1, 7) = 26; trim(0, 0) = 6; loans(0, 1) = 0; loans(0, 2) = 1; space(1, 7) = 27; trim(0, 1) = 5",
                "loans(0, 2) = 0; space(0, 4) = 3; space(0, 3) = 2");
    }

    private static void freedRoom() {
        Sentence.of(TRIMMING, "otherwise common becomes less by 1, if it has any; otherwise own.")
            .holds("device(Ds0260s2760s2860r00005) = 0; space(0, 5) = 1; trim(0, 0) = 5; space(0, 5) = 0",
                "space(0, 4) = 3; trim(0, 1) = 4; space(0, 4) = 2; about(3) = 1; trim(0, 2) = 3; trim(0, 3) = 2",
                "space(0, 4) = 0; space(0, 3) = 2; about(3) = 3; trim(0, 4) = 1; space(0, 3) = 1; space(0, 7) = 1",
                "trim(0, 5) = 0; space(0, 3) = 0; space(0, 7) = 2");
    }

    private static void trim() {
        Sentence.of("Promise 13", "Returns the written pages of the space then.")
            .holds("make(0, 60); make(0, 60); fill(0, 0, 39) = 3; write(1, 0) = 3; trim(0, 39) = 39; trim(0, 0) = 38",
                "trim(1, 0) = 0; about(1) = 38; about(7) = 0; about(5) = 41");
        Sentence.of("Promise 13", "Throws `IndexOutOfBoundsException` if there is no such space or page")
            .holds("device(Ds0060r00039) = 0; trim(LEAST, 0) ! Index; trim(-1, 0) ! Index; trim(1, 0) ! Index",
                "trim(5, 0) ! Index; trim(MOST, 0) ! Index; trim(0, LEAST) ! Index; trim(0, -1) ! Index",
                "trim(0, 40) ! Index; trim(0, MOST) ! Index; trim(1, 40) ! Index; trim(0, 0) = 39; trim(0, 39) = 38");
        Sentence.of("Promise 13", "Throws `IllegalStateException` if it is not written")
            .holds("make(0, 1); trim(0, 0) ! State; write(0, 0) = 3; trim(0, 1) ! State; trim(0, 0) = 0",
                "trim(0, 0) ! State")
            .holds("make(0, 1); write(0, 0) = 3; write(0, 1) = 5; trim(0, 1) ! State; undo() = 2; trim(0, 0) = 0");
    }

    private static void floors() {
        Sentence.of(TRIMMING, "When a floor is changed, nothing is lost, and pages stay backed as they are:")
            .holds("make(2, 60); fill(0, 0, 3) = 3; setFloor(0, 58) = 2; space(0, 3) = 2; space(0, 4) = 2",
                "space(0, 7) = 56; about(3) = 0; about(2) = 2; about(1) = 4; about(7) = 0; setFloor(0, 2) = 58",
                "space(0, 3) = 2; space(0, 4) = 2; about(3) = 56")
            .holds(WANTED, "setFloor(2, 38) = 40; setFloor(1, 2) = 0; loans(1, 0) = 10; space(1, 3) = 0",
                "space(1, 7) = 2; about(7) = 0; setFloor(2, 38) = 38; space(2, 3) = 38");
        Sentence.of(TRIMMING, "it is possible only if the floors of all are at most 60 together, common room is free "
            + "by 0 or more then, the floor is not less than own and what it lends, and not above the ceiling.")
            .holds("make(20, 60); make(30, 60); setFloor(0, 31) ! State; setFloor(0, 30) = 20; about(2) = 0",
                "setFloor(1, 31) ! State; setFloor(1, 30) = 30")
            .holds("make(0, 60); make(0, 60); fill(0, 0, 9) = 3; setFloor(1, 51) ! State; setFloor(1, 50) = 0",
                "about(3) = 0; setFloor(0, 1) ! State; setFloor(0, 0) = 0; setFloor(1, 0) = 50",
                "setFloor(0, 51) ! State; setFloor(0, 50) = 0")
            .holds("device(Ds3060s0060s3030r20029r00009r10004) = 0; loans(1, 0) = 5; setFloor(0, 14) ! State",
                "setFloor(0, 15) = 30; space(0, 7) = 0; about(3) = 15; setFloor(0, 14) ! State; trim(1, 0) = 4",
                "setFloor(0, 14) = 15; setFloor(0, 13) ! State; trim(0, 0) = 9; setFloor(0, 13) = 14",
                "setFloor(2, 29) ! State")
            .holds("make(0, 20); setFloor(0, 21) ! State; setFloor(0, 20) = 0; setCeiling(0, 21) = 20",
                "setFloor(0, 21) = 20");
    }
}
