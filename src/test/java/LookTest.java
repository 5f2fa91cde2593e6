/** Promises 6 to 10: about, space, loans, time, oldest. */
final class LookTest {
    private static final Class<IllegalArgumentException> ARGUMENT = IllegalArgumentException.class;
    private static final Class<IndexOutOfBoundsException> INDEX = IndexOutOfBoundsException.class;

    public static void main(String[] args) {
        numbers();
        counts();
        wrongInputs();
        times();
        order();
        Check.finish();
    }

    /** Space 0 has 5 own, 12 common, 3 loans of space 1; space 2 is at its ceiling. */
    private static LentRoom lent() {
        return Check.device("Ds0540s4040s0303r20002w203r00019");
    }

    private static void numbers() {
        LentRoom x = lent();
        int[] about = {3, 23, 12, 0, 3, 23, 0, 0, 1};
        for (int what = 0; what < about.length; what++) {
            int asked = what;
            Check.due("about(" + what + ")", about[what], () -> x.about(asked));
        }
        int[][] space = {
            {5, 40, 20, 5, 12, 3, 0, 0, 0, 0, 0},
            {40, 40, 0, 0, 0, 0, 3, 37, 0, 0, 0},
            {3, 3, 3, 3, 0, 0, 0, 0, 0, 0, 1}};
        for (int s = 0; s < space.length; s++) {
            for (int what = 0; what < space[s].length; what++) {
                int of = s;
                int asked = what;
                Check.due("space(" + s + ", " + what + ")", space[s][what], () -> x.space(of, asked));
            }
        }
        Check.due("loans(0, 1)", 3, () -> x.loans(0, 1));
        Check.due("loans(1, 0)", 0, () -> x.loans(1, 0));
        Check.due("loans(0, 0)", 0, () -> x.loans(0, 0));
        Check.due("loans(0, 2)", 0, () -> x.loans(0, 2));
    }

    private static void counts() {
        // Space 1 wants its 40 blocks: the three that it lends are recalled, and three pages are lost.
        LentRoom x = lent();
        Check.writeAll(x, 1, 0, 39);
        x.write(0, 39);
        Check.due("about(6)", 3, () -> x.about(6));
        Check.due("about(7)", 3, () -> x.about(7));
        Check.due("about(8)", 2, () -> x.about(8));
        Check.due("about(5)", 63, () -> x.about(5));
        Check.due("about(1)", 60, () -> x.about(1));
        Check.due("space(1, 8)", 3, () -> x.space(1, 8));
        Check.due("space(0, 8)", 0, () -> x.space(0, 8));
        Check.due("space(0, 9)", 3, () -> x.space(0, 9));
        Check.due("space(1, 9)", 0, () -> x.space(1, 9));
        Check.due("space(0, 10)", 1, () -> x.space(0, 10));
        Check.due("space(1, 10)", 0, () -> x.space(1, 10));
    }

    private static void wrongInputs() {
        LentRoom x = lent();
        Check.fails(x, "about(-1)", ARGUMENT, () -> x.about(-1));
        Check.fails(x, "about(9)", ARGUMENT, () -> x.about(9));
        Check.fails(x, "space(0, -1)", ARGUMENT, () -> x.space(0, -1));
        Check.fails(x, "space(0, 11)", ARGUMENT, () -> x.space(0, 11));
        for (int s : new int[] {-1, 3, 4, 5, Integer.MAX_VALUE, Integer.MIN_VALUE}) {
            Check.fails(x, "space(" + s + ", 11)", INDEX, () -> x.space(s, 11));
            Check.fails(x, "loans(" + s + ", 0)", INDEX, () -> x.loans(s, 0));
            Check.fails(x, "loans(0, " + s + ")", INDEX, () -> x.loans(0, s));
            Check.fails(x, "time(" + s + ", 0)", INDEX, () -> x.time(s, 0));
            Check.fails(x, "oldest(" + s + ", -1)", INDEX, () -> x.oldest(s, -1));
        }
        for (int page : new int[] {-1, 40, Integer.MAX_VALUE, Integer.MIN_VALUE}) {
            Check.fails(x, "time(0, " + page + ")", INDEX, () -> x.time(0, page));
        }
        Check.fails(x, "oldest(0, -1)", ARGUMENT, () -> x.oldest(0, -1));
    }

    private static void times() {
        LentRoom x = Check.device("Ds0302");
        Check.due("about(5) at first", 0, () -> x.about(5));
        LentRoom y = Check.device("Ds0303");
        Check.due("time(0, 39)", -1, () -> y.time(0, 39));
        y.write(0, 39);
        Check.due("time(0, 39)", 1, () -> y.time(0, 39));
        y.write(0, 0);
        y.write(0, 39);
        Check.due("time(0, 39)", 3, () -> y.time(0, 39));
        Check.due("time(0, 0)", 2, () -> y.time(0, 0));
        y.write(0, 1);
        y.write(0, 2);
        Check.due("about(5) behind a refused write", 4, () -> y.about(5));
        Check.due("time(0, 2)", -1, () -> y.time(0, 2));
        y.trim(0, 39);
        Check.due("time(0, 39) behind trim", -1, () -> y.time(0, 39));
    }

    private static void order() {
        LentRoom x = Check.device("Ds0060w007w003w039w003w000");
        int[] pages = {7, 39, 3, 0, -1};
        for (int i = 0; i < pages.length; i++) {
            int asked = i;
            Check.due("oldest(0, " + i + ")", pages[i], () -> x.oldest(0, asked));
        }
        Check.due("oldest(0, 40)", -1, () -> x.oldest(0, 40));
        Check.due("oldest(0, the greatest int)", -1, () -> x.oldest(0, Integer.MAX_VALUE));
        LentRoom y = Check.device("Ds0060r00039w000");
        Check.due("oldest(0, 0) of all pages", 1, () -> y.oldest(0, 0));
        Check.due("oldest(0, 39) of all pages", 0, () -> y.oldest(0, 39));
        Check.due("oldest(0, 40) of all pages", -1, () -> y.oldest(0, 40));
    }
}
