/** Promises 11 to 16: make, write, trim, setFloor, setCeiling, undo. */
final class ActionTest {
    private static final Class<IllegalArgumentException> ARGUMENT = IllegalArgumentException.class;
    private static final Class<IllegalStateException> STATE = IllegalStateException.class;
    private static final Class<IndexOutOfBoundsException> INDEX = IndexOutOfBoundsException.class;

    public static void main(String[] args) {
        making();
        waysOfWriting();
        refusals();
        idlestLends();
        greatestBorrowerPays();
        recallMovesToOwnFloor();
        recallMovesToCommonRoom();
        recallMovesToAnotherLender();
        recallTakesTheOldest();
        recallTakesTheFirstOfAll();
        wrongPages();
        trimming();
        floors();
        ceilings();
        undoing();
        undoOfFailures();
        Check.finish();
    }

    private static void making() {
        LentRoom x = new LentRoom();
        Check.fails(x, "make(-1, 5)", ARGUMENT, () -> x.make(-1, 5));
        Check.fails(x, "make(61, 61)", ARGUMENT, () -> x.make(61, 61));
        Check.fails(x, "make(0, 0)", ARGUMENT, () -> x.make(0, 0));
        Check.fails(x, "make(0, -1)", ARGUMENT, () -> x.make(0, -1));
        Check.fails(x, "make(0, 61)", ARGUMENT, () -> x.make(0, 61));
        Check.fails(x, "make(5, 4)", ARGUMENT, () -> x.make(5, 4));
        Check.due("make(0, 1)", 0, () -> x.make(0, 1));
        Check.due("make(60, 60)", 1, () -> x.make(60, 60));
        Check.fails(x, "make(1, 1)", STATE, () -> x.make(1, 1));
        Check.due("make(0, 60)", 2, () -> x.make(0, 60));
        Check.due("make(0, 60)", 3, () -> x.make(0, 60));
        Check.due("make of the 5th", 4, () -> x.make(0, 60));
        Check.fails(x, "make of a 6th", STATE, () -> x.make(0, 1));
        Check.fails(x, "make(0, 0) of a 6th", ARGUMENT, () -> x.make(0, 0));
        Check.due("space(1, 0)", 60, () -> x.space(1, 0));
        Check.due("space(0, 1)", 1, () -> x.space(0, 1));
        // what is free of the common room counts, not the common room
        LentRoom y = Check.device("Ds1060r00029");
        Check.due("about(3)", 30, () -> y.about(3));
        Check.fails(y, "make(31, 60)", STATE, () -> y.make(31, 60));
        Check.due("make(30, 60)", 1, () -> y.make(30, 60));
    }

    private static void waysOfWriting() {
        LentRoom y = Check.device("Ds0240s5560");
        int[] ways = {1, 1, 3, 3, 3, 4, 4};
        for (int page = 0; page < ways.length; page++) {
            int asked = page;
            Check.due("write(0, " + page + ")", ways[page], () -> y.write(0, asked));
        }
        Check.writeAll(y, 1, 0, 39);
        Check.due("write(0, 39)", 4, () -> y.write(0, 39));
        Check.due("write(0, 38)", 4, () -> y.write(0, 38));
        Check.due("space(1, 7)", 11, () -> y.space(1, 7));
        Check.due("about(1)", 49, () -> y.about(1));
    }

    private static void refusals() {
        LentRoom y = Check.device("Ds0303s5757");
        Check.writeAll(y, 0, 0, 2);
        Check.due("write at the ceiling", 5, () -> y.write(0, 3));
        Check.due("space(0, 10)", 1, () -> y.space(0, 10));
        Check.due("rewrite at the ceiling", 0, () -> y.write(0, 1));
        Check.due("time(0, 1)", 4, () -> y.time(0, 1));
        Check.due("time(0, 3)", -1, () -> y.time(0, 3));
        LentRoom full = Check.device("Ds2060s2060s0060r00029r10029");
        Check.due("about(1)", 60, () -> full.about(1));
        Check.due("write into a full device", 5, () -> full.write(2, 0));
        Check.due("write of a full space", 5, () -> full.write(0, 39));
        Check.due("about(8)", 2, () -> full.about(8));
        Check.due("about(5)", 60, () -> full.about(5));
        Check.due("rewrite in a full device", 0, () -> full.write(0, 29));
    }

    private static void idlestLends() {
        LentRoom x = Check.device("Ds0060s1930s2030s2130");
        Check.due("write(0, 0)", 4, () -> x.write(0, 0));
        Check.due("loans(0, 3)", 1, () -> x.loans(0, 3));
        Check.due("write(0, 1)", 4, () -> x.write(0, 1));
        Check.due("the lowest of several", 1, () -> x.loans(0, 2));
        x.write(0, 2);
        Check.due("loans(0, 3)", 2, () -> x.loans(0, 3));
        x.write(0, 3);
        Check.due("loans(0, 1)", 1, () -> x.loans(0, 1));
    }

    private static void greatestBorrowerPays() {
        // Space 0 lends to 1 and 2; the rest of the room is full.
        LentRoom x = Check.device("Ds6060s0060s0060r10029r20029");
        Check.due("write(0, 0)", 2, () -> x.write(0, 0));
        Check.due("the lowest of several borrowers", 29, () -> x.loans(1, 0));
        Check.due("its page is lost", 1, () -> x.space(1, 9));
        x.write(0, 1);
        Check.due("the greatest borrower", 29, () -> x.loans(2, 0));
        Check.due("space(2, 9)", 1, () -> x.space(2, 9));
        Check.due("space(0, 8)", 2, () -> x.space(0, 8));
        Check.due("space(0, 3)", 2, () -> x.space(0, 3));
    }

    private static void recallMovesToOwnFloor() {
        // Space 1 borrowed before its floor was raised over its own pages.
        LentRoom y = Check.device("Ds2060s0060s4040r20037r10009");
        Check.due("loans(1, 0)", 10, () -> y.loans(1, 0));
        y.setFloor(2, 38);
        y.setFloor(1, 2);
        Check.writeAll(y, 0, 0, 9);
        Check.due("space(1, 7)", 2, () -> y.space(1, 7));
        Check.due("write(0, 10)", 2, () -> y.write(0, 10));
        Check.due("own of the borrower", 1, () -> y.space(1, 3));
        Check.due("loans(1, 0)", 9, () -> y.loans(1, 0));
        Check.due("nothing is lost", 0, () -> y.about(7));
        Check.due("it is a recall", 1, () -> y.space(0, 8));
        Check.due("about(1)", 59, () -> y.about(1));
        y.write(0, 11);
        Check.due("own again", 2, () -> y.space(1, 3));
        Check.due("nothing is lost", 0, () -> y.about(7));
        y.write(0, 12);
        Check.due("its floor is full", 2, () -> y.space(1, 3));
        Check.due("so one is lost", 1, () -> y.about(7));
    }

    private static void recallMovesToCommonRoom() {
        LentRoom x = Check.device("Ds2060s0060s4040r20037r10009");
        x.setFloor(2, 38);
        Check.writeAll(x, 0, 0, 9);
        Check.due("about(3)", 2, () -> x.about(3));
        Check.due("write(0, 10)", 2, () -> x.write(0, 10));
        Check.due("common of the borrower", 1, () -> x.space(1, 4));
        Check.due("write(0, 11)", 2, () -> x.write(0, 11));
        Check.due("about(3)", 0, () -> x.about(3));
        Check.due("nothing is lost", 0, () -> x.about(7));
        Check.due("write(0, 12)", 2, () -> x.write(0, 12));
        Check.due("its oldest page is lost", -1, () -> x.time(1, 0));
        Check.due("space(1, 9)", 1, () -> x.space(1, 9));
        Check.due("loans(1, 0)", 7, () -> x.loans(1, 0));
    }

    private static void recallMovesToAnotherLender() {
        LentRoom x = Check.device("Ds4060s0060s0920s1120r10029");
        Check.due("loans(1, 0)", 30, () -> x.loans(1, 0));
        Check.writeAll(x, 0, 0, 9);
        Check.due("write(0, 10)", 2, () -> x.write(0, 10));
        Check.due("the idlest lends", 1, () -> x.loans(1, 3));
        Check.writeAll(x, 0, 11, 11);
        Check.due("loans(1, 3)", 2, () -> x.loans(1, 3));
        x.write(0, 12);
        Check.due("the lowest of several lenders", 1, () -> x.loans(1, 2));
        Check.due("loans(1, 0)", 27, () -> x.loans(1, 0));
        Check.due("about(7)", 0, () -> x.about(7));
        Check.due("about(6)", 3, () -> x.about(6));
    }

    private static void recallTakesTheOldest() {
        LentRoom x = Check.device("Ds6060s0060r10039w100w102");
        Check.writeAll(x, 0, 0, 19);
        Check.due("write(0, 20)", 2, () -> x.write(0, 20));
        Check.due("the page with the least time", -1, () -> x.time(1, 1));
        Check.due("a page written again", 41, () -> x.time(1, 0));
        x.write(0, 21);
        Check.due("the next one", -1, () -> x.time(1, 3));
        Check.due("time(1, 2)", 42, () -> x.time(1, 2));
        Check.due("space(1, 2)", 38, () -> x.space(1, 2));
        Check.due("about(1)", 60, () -> x.about(1));
    }

    private static void recallTakesTheFirstOfAll() {
        LentRoom x = Check.device("Ds6060s0060w139r10038");
        Check.writeAll(x, 0, 0, 19);
        Check.due("write(0, 20)", 2, () -> x.write(0, 20));
        Check.due("the page with time 1", -1, () -> x.time(1, 39));
        Check.due("oldest(1, 0)", 0, () -> x.oldest(1, 0));
        String before = Check.picture(x);
        x.write(0, 21);
        Check.due("undo() of a recall", 13, x::undo);
        Check.same("everything behind it", Check.picture(x), before);
    }

    private static void wrongPages() {
        LentRoom x = Check.device("Ds0060w000");
        for (int s : new int[] {-1, 1, 5, Integer.MIN_VALUE, Integer.MAX_VALUE}) {
            Check.fails(x, "write(" + s + ", 0)", INDEX, () -> x.write(s, 0));
            Check.fails(x, "trim(" + s + ", 0)", INDEX, () -> x.trim(s, 0));
            Check.fails(x, "setFloor(" + s + ", 61)", INDEX, () -> x.setFloor(s, 61));
            Check.fails(x, "setCeiling(" + s + ", 61)", INDEX, () -> x.setCeiling(s, 61));
        }
        for (int page : new int[] {-1, 40, Integer.MIN_VALUE, Integer.MAX_VALUE}) {
            Check.fails(x, "write(0, " + page + ")", INDEX, () -> x.write(0, page));
            Check.fails(x, "trim(0, " + page + ")", INDEX, () -> x.trim(0, page));
        }
        Check.fails(x, "trim(0, 1)", STATE, () -> x.trim(0, 1));
        Check.due("write(0, 39)", 3, () -> x.write(0, 39));
        Check.due("trim(0, 39)", 1, () -> x.trim(0, 39));
        Check.fails(x, "trim(0, 39) again", STATE, () -> x.trim(0, 39));
    }

    private static void trimming() {
        // 2 own, 3 common, 2 loans of space 1 and 2 of space 2
        LentRoom y = Check.device("Ds0260s2760s2860r00008");
        Check.due("space(0, 4)", 3, () -> y.space(0, 4));
        Check.due("loans(0, 1)", 2, () -> y.loans(0, 1));
        Check.due("loans(0, 2)", 2, () -> y.loans(0, 2));
        Check.due("trim(0, 0)", 8, () -> y.trim(0, 0));
        Check.due("the lowest of several lenders", 1, () -> y.loans(0, 1));
        Check.due("trim(0, 1)", 7, () -> y.trim(0, 1));
        Check.due("the greatest lender", 1, () -> y.loans(0, 2));
        y.trim(0, 2);
        Check.due("trim(0, 3)", 5, () -> y.trim(0, 3));
        Check.due("no loans are left", 0, () -> y.space(0, 5));
        Check.due("common room is kept meanwhile", 3, () -> y.space(0, 4));
        Check.due("trim(0, 4)", 4, () -> y.trim(0, 4));
        Check.due("common is next", 2, () -> y.space(0, 4));
        y.trim(0, 5);
        y.trim(0, 6);
        Check.due("own is last", 2, () -> y.space(0, 3));
        Check.due("trim(0, 7)", 1, () -> y.trim(0, 7));
        Check.due("trim(0, 8)", 0, () -> y.trim(0, 8));
        Check.due("space(0, 3)", 0, () -> y.space(0, 3));
        Check.due("space(0, 7)", 2, () -> y.space(0, 7));
        Check.due("about(5)", 9, () -> y.about(5));
        Check.due("about(7)", 0, () -> y.about(7));
    }

    private static void floors() {
        // Space 0: 5 own, 25 common; space 1: 30 floor, 10 idle behind 15 own and 5 lent.
        LentRoom x = Check.device("Ds0550s3040r00034r10014");
        Check.due("loans(0, 1)", 5, () -> x.loans(0, 1));
        Check.fails(x, "setFloor(1, 19)", STATE, () -> x.setFloor(1, 19));
        Check.fails(x, "setFloor(1, 31)", STATE, () -> x.setFloor(1, 31));
        Check.fails(x, "setFloor(1, -1)", ARGUMENT, () -> x.setFloor(1, -1));
        Check.fails(x, "setFloor(1, 61)", ARGUMENT, () -> x.setFloor(1, 61));
        Check.fails(x, "setFloor(1, 60)", STATE, () -> x.setFloor(1, 60));
        Check.due("setFloor(1, 30)", 30, () -> x.setFloor(1, 30));
        Check.due("setFloor(1, 20)", 30, () -> x.setFloor(1, 20));
        Check.due("about(3)", 10, () -> x.about(3));
        Check.due("pages stay backed", 5, () -> x.loans(0, 1));
        Check.due("setFloor(0, 15)", 5, () -> x.setFloor(0, 15));
        Check.due("space(0, 7)", 10, () -> x.space(0, 7));
        Check.fails(x, "setFloor(0, 4)", STATE, () -> x.setFloor(0, 4));
        Check.fails(x, "setFloor(0, 16)", STATE, () -> x.setFloor(0, 16));
        LentRoom y = Check.device("Ds0020");
        Check.fails(y, "setFloor above the ceiling", STATE, () -> y.setFloor(0, 21));
        Check.due("setFloor(0, 20)", 0, () -> y.setFloor(0, 20));
        Check.due("setFloor(0, 0)", 20, () -> y.setFloor(0, 0));
        LentRoom z = Check.device("Ds0060");
        Check.due("setFloor(0, 60)", 0, () -> z.setFloor(0, 60));
        Check.due("about(2)", 0, () -> z.about(2));
    }

    private static void ceilings() {
        LentRoom x = Check.device("Ds0310r00009");
        Check.fails(x, "setCeiling(0, 0)", ARGUMENT, () -> x.setCeiling(0, 0));
        Check.fails(x, "setCeiling(0, 61)", ARGUMENT, () -> x.setCeiling(0, 61));
        Check.fails(x, "setCeiling(0, 2)", ARGUMENT, () -> x.setCeiling(0, 2));
        Check.due("setCeiling(0, 3)", 10, () -> x.setCeiling(0, 3));
        Check.due("pages above it stay", 10, () -> x.space(0, 2));
        Check.due("write above it", 5, () -> x.write(0, 10));
        Check.due("rewrite above it", 0, () -> x.write(0, 9));
        Check.due("setCeiling(0, 60)", 3, () -> x.setCeiling(0, 60));
        Check.due("write(0, 10)", 3, () -> x.write(0, 10));
        LentRoom y = Check.device("Ds0010");
        Check.due("setCeiling(0, 1)", 10, () -> y.setCeiling(0, 1));
        Check.fails(y, "setCeiling(0, 0) with floor 0", ARGUMENT, () -> y.setCeiling(0, 0));
    }

    private static void undoing() {
        LentRoom x = new LentRoom();
        String[] before = new String[6];
        before[0] = Check.picture(x);
        x.make(1, 1);
        before[1] = Check.picture(x);
        x.write(0, 0);
        before[2] = Check.picture(x);
        Check.due("a refused write", 5, () -> x.write(0, 1));
        before[3] = Check.picture(x);
        x.setFloor(0, 1);
        before[4] = Check.picture(x);
        x.setCeiling(0, 60);
        before[5] = Check.picture(x);
        x.trim(0, 0);
        for (int left = 5; left >= 0; left--) {
            Check.due("undo()", left, x::undo);
            Check.same("everything behind undo() to " + left, Check.picture(x), before[left]);
        }
        Check.fails(x, "undo() of nothing", STATE, x::undo);

        LentRoom y = Check.device("Ds0060");
        Check.writeAll(y, 0, 0, 14);
        for (int left = 13; left >= 0; left--) {
            Check.due("undo() of 15 actions", left, y::undo);
        }
        Check.fails(y, "undo() of a 15th", STATE, y::undo);
        Check.due("the oldest action stays", 1, () -> y.space(0, 2));
        Check.due("about(5)", 1, () -> y.about(5));

        LentRoom z = Check.device("Ds0060");
        Check.writeAll(z, 0, 0, 13);
        Check.due("undo()", 13, z::undo);
        z.write(0, 39);
        Check.due("undo()", 13, z::undo);
        Check.due("time(0, 39)", -1, () -> z.time(0, 39));
        for (int left = 12; left >= 0; left--) {
            Check.due("undo() of 14 actions", left, z::undo);
        }
        Check.due("nothing is left of them", 0, () -> z.space(0, 2));
    }

    private static void undoOfFailures() {
        LentRoom x = Check.device("Ds0003");
        Check.fails(x, "write(1, 0)", INDEX, () -> x.write(1, 0));
        Check.fails(x, "trim(0, 0)", STATE, () -> x.trim(0, 0));
        Check.fails(x, "setFloor(0, 4)", STATE, () -> x.setFloor(0, 4));
        Check.fails(x, "setCeiling(0, 0)", ARGUMENT, () -> x.setCeiling(0, 0));
        Check.fails(x, "make(0, 0)", ARGUMENT, () -> x.make(0, 0));
        x.would(0, 0);
        x.runScript(1, 10000);
        x.simulate(1, 9);
        x.save(0);
        x.append('D');
        x.clearText();
        Check.fails(x, "undo() behind calls that are no actions", STATE, x::undo);
        x.setFloor(0, 0);
        Check.due("undo() of an action without effect", 0, x::undo);
    }
}
