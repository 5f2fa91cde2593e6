/** Promises 17 to 23: would, room, harm, victim, noisy, mostFloor, leastFloor. */
final class ForecastTest {
    private static final Class<IllegalArgumentException> ARGUMENT = IllegalArgumentException.class;
    private static final Class<IndexOutOfBoundsException> INDEX = IndexOutOfBoundsException.class;

    public static void main(String[] args) {
        woulds();
        rooms();
        harms();
        victims();
        noises();
        bounds();
        wrongInputs();
        Check.finish();
    }

    private static void woulds() {
        LentRoom y = Check.device("Ds0106s5758r00000");
        String before = Check.picture(y);
        Check.due("would(0, 0)", 0, () -> y.would(0, 0));
        Check.due("would(0, 1)", 3, () -> y.would(0, 1));
        Check.due("would(1, 0)", 1, () -> y.would(1, 0));
        Check.same("everything behind would", Check.picture(y), before);
        Check.writeAll(y, 0, 1, 2);
        Check.due("would(0, 3)", 4, () -> y.would(0, 3));
        Check.writeAll(y, 0, 3, 5);
        Check.due("would(0, 6)", 5, () -> y.would(0, 6));
        Check.due("nothing is counted", 0, () -> y.about(8));
        LentRoom z = Check.device("Ds6060s0060r10039r00019");
        Check.due("would(0, 20)", 2, () -> z.would(0, 20));
        Check.due("nothing is lost", 0, () -> z.about(7));
    }

    private static void rooms() {
        LentRoom empty = Check.device("Ds0060");
        Check.due("room above the 40 pages", 60, () -> empty.room(0));
        LentRoom one = Check.device("Ds0001");
        Check.due("room(0)", 1, () -> one.room(0));
        one.write(0, 39);
        Check.due("room at the ceiling", 0, () -> one.room(0));
        LentRoom x = Check.device("Ds1050s3060r00004s0060");
        Check.due("room(0)", 45, () -> x.room(0));
        Check.due("room(1)", 55, () -> x.room(1));
        Check.due("room(2)", 55, () -> x.room(2));
        // Where loans are recalled, the borrower moves into what the space could have had later.
        LentRoom y = Check.device("Ds2060s0060s4040r20037r10009f238");
        String before = Check.picture(y);
        Check.due("room of one that recalls", 20, () -> y.room(0));
        Check.due("room of the borrower", 12, () -> y.room(1));
        Check.same("everything behind room", Check.picture(y), before);
        LentRoom above = Check.device("Ds0020r00009");
        above.setCeiling(0, 5);
        Check.due("room above the ceiling", 0, () -> above.room(0));
    }

    private static void harms() {
        LentRoom x = Check.device("Ds2060s0060s4040r20037r10009f238");
        String before = Check.picture(x);
        Check.due("harm(0, 0)", 0, () -> x.harm(0, 0));
        Check.due("harm(0, 12)", 0, () -> x.harm(0, 12));
        Check.due("harm(0, 13)", 1, () -> x.harm(0, 13));
        Check.due("harm(0, 20)", 8, () -> x.harm(0, 20));
        Check.due("harm(0, 60)", 8, () -> x.harm(0, 60));
        Check.due("harm(1, 60)", 0, () -> x.harm(1, 60));
        Check.same("everything behind harm", Check.picture(x), before);
        Check.fails(x, "harm(0, -1)", ARGUMENT, () -> x.harm(0, -1));
        Check.fails(x, "harm(0, 61)", ARGUMENT, () -> x.harm(0, 61));
        Check.writeAll(x, 0, 0, 14);
        Check.due("about(7)", 3, () -> x.about(7));
        Check.due("what was lost before does not count", 5, () -> x.harm(0, 60));
    }

    private static void victims() {
        LentRoom x = Check.device("Ds6060s0060s0060r10009r20019");
        String before = Check.picture(x);
        Check.due("victim(0)", 2, () -> x.victim(0));
        Check.due("victim(1)", -1, () -> x.victim(1));
        Check.same("everything behind victim", Check.picture(x), before);
        LentRoom y = Check.device("Ds5060s0060s1060r10009r20009r11029r00029");
        Check.due("victim of the only lender", 1, () -> y.victim(0));
        y.write(0, 39);
        Check.due("about(7)", 11, () -> y.about(7));
        Check.due("victim behind losses", 1, () -> y.victim(0));
        LentRoom z = Check.device("Ds0510s5560r00009");
        Check.due("victim of one that moves first", 0, () -> z.victim(1));
        Check.due("victim(0)", -1, () -> z.victim(0));
        z.setCeiling(1, 55);
        Check.due("harm(1, 50)", 0, () -> z.harm(1, 50));
        Check.due("harm(1, 51)", 1, () -> z.harm(1, 51));
    }

    private static void noises() {
        LentRoom x = Check.device("Ds0060s0060");
        Check.due("the lowest of several", 0, x::noisy);
        LentRoom y = Check.device("Ds0040s6060r00029");
        Check.writeAll(y, 1, 0, 29);
        Check.due("noisy() without recalls", 0, y::noisy);
        y.write(1, 30);
        Check.due("noisy() behind a recall", 1, y::noisy);
        // What space 0 recalls moves to the floor of space 1, which then recalls with losses.
        LentRoom z = Check.device("Ds3030s3060s0060r20029r00029r10014");
        Check.due("space(2, 9)", 15, () -> z.space(2, 9));
        Check.due("space(0, 8)", 15, () -> z.space(0, 8));
        Check.due("space(1, 8)", 15, () -> z.space(1, 8));
        Check.due("the lowest of two that recalled", 0, z::noisy);
        twoForEachLost();
    }

    /** Space 1 recalls 10 times; then it loses 4 pages, which leaves 2, and 2 more, which leaves -2. */
    private static void twoForEachLost() {
        LentRoom x = Check.device("Ds0060s3060s3040r20039r10029");
        Check.due("space(1, 8)", 10, () -> x.space(1, 8));
        Check.due("space(2, 9)", 10, () -> x.space(2, 9));
        for (int page = 10; page < 20; page++) {
            x.trim(2, page);
        }
        Check.writeAll(x, 1, 30, 33);
        Check.writeAll(x, 2, 0, 9);
        Check.due("space(1, 9)", 4, () -> x.space(1, 9));
        Check.due("10 - 2 * 4 against 0", 1, x::noisy);
        x.trim(2, 20);
        x.trim(2, 21);
        Check.writeAll(x, 1, 34, 35);
        Check.writeAll(x, 2, 10, 11);
        Check.due("space(1, 9)", 6, () -> x.space(1, 9));
        Check.due("10 - 2 * 6 against 0", 0, x::noisy);
        x.undo();
        Check.due("10 - 2 * 5 against 0", 0, x::noisy);
        Check.due("space(1, 9) behind undo", 5, () -> x.space(1, 9));
        Check.due("space(2, 8) behind undo", 5, () -> x.space(2, 8));
    }

    private static void bounds() {
        LentRoom x = Check.device("Ds0550s3040r00034r10014");
        Check.due("leastFloor(1)", 20, () -> x.leastFloor(1));
        Check.due("mostFloor(1)", 30, () -> x.mostFloor(1));
        Check.due("leastFloor(0)", 5, () -> x.leastFloor(0));
        Check.due("mostFloor(0)", 5, () -> x.mostFloor(0));
        x.setFloor(1, 20);
        Check.due("mostFloor(0)", 15, () -> x.mostFloor(0));
        Check.due("mostFloor(1)", 30, () -> x.mostFloor(1));
        x.setCeiling(1, 25);
        Check.due("mostFloor at the ceiling", 25, () -> x.mostFloor(1));
        LentRoom y = Check.device("Ds0060");
        Check.due("mostFloor(0)", 60, () -> y.mostFloor(0));
        Check.due("leastFloor(0)", 0, () -> y.leastFloor(0));
    }

    private static void wrongInputs() {
        LentRoom x = Check.device("Ds0060w000");
        for (int s : new int[] {-1, 1, 5, Integer.MIN_VALUE, Integer.MAX_VALUE}) {
            Check.fails(x, "would(" + s + ", 0)", INDEX, () -> x.would(s, 0));
            Check.fails(x, "room(" + s + ")", INDEX, () -> x.room(s));
            Check.fails(x, "harm(" + s + ", 61)", INDEX, () -> x.harm(s, 61));
            Check.fails(x, "victim(" + s + ")", INDEX, () -> x.victim(s));
            Check.fails(x, "mostFloor(" + s + ")", INDEX, () -> x.mostFloor(s));
            Check.fails(x, "leastFloor(" + s + ")", INDEX, () -> x.leastFloor(s));
        }
        Check.fails(x, "would(0, -1)", INDEX, () -> x.would(0, -1));
        Check.fails(x, "would(0, 40)", INDEX, () -> x.would(0, 40));
        Check.due("would(0, 39)", 3, () -> x.would(0, 39));
    }
}
