/** Promises 24 and 25: runScript, simulate. */
final class ScriptTest {
    private static final Class<IllegalArgumentException> ARGUMENT = IllegalArgumentException.class;

    public static void main(String[] args) {
        arguments();
        commands();
        sequences();
        simulations();
        Check.finish();
    }

    private static void arguments() {
        LentRoom x = Check.device("Ds0060");
        Check.fails(x, "runScript(0, 0)", ARGUMENT, () -> x.runScript(0, 0));
        Check.fails(x, "runScript(4, 0)", ARGUMENT, () -> x.runScript(4, 0));
        Check.fails(x, "runScript(1, -1)", ARGUMENT, () -> x.runScript(1, -1));
        Check.fails(x, "runScript(1, 100000)", ARGUMENT, () -> x.runScript(1, 100000));
        Check.fails(x, "runScript(2, 10^10)", ARGUMENT, () -> x.runScript(2, 10000000000L));
        Check.fails(x, "runScript(3, 10^15)", ARGUMENT, () -> x.runScript(3, 1000000000000000L));
        Check.fails(x, "runScript(3, least)", ARGUMENT, () -> x.runScript(3, Long.MIN_VALUE));
        Check.fails(x, "runScript(3, most)", ARGUMENT, () -> x.runScript(3, Long.MAX_VALUE));
        Check.due("runScript(1, 99999)", 0, () -> x.runScript(1, 99999));
        Check.due("runScript(3, 10^15 - 1)", 0, () -> x.runScript(3, 999999999999999L));
        Check.due("runScript(1, 0)", 0, () -> x.runScript(1, 0));
        Check.fails(x, "simulate(0, 0)", ARGUMENT, () -> x.simulate(0, 0));
        Check.fails(x, "simulate(0, 100)", ARGUMENT, () -> x.simulate(0, 100));
        Check.fails(x, "simulate(0, -1)", ARGUMENT, () -> x.simulate(0, -1));
    }

    private static void single(LentRoom x, int script, boolean succeeds) {
        String before = Check.picture(x);
        Check.due("runScript(1, " + script + ")", succeeds ? -1 : 0, () -> x.runScript(1, script));
        Check.same("everything behind runScript", Check.picture(x), before);
    }

    private static void commands() {
        // Space 0: 5 own, 25 common, 5 loans of space 1; space 1: 15 own, 10 idle.
        LentRoom x = Check.device("Ds0535s3040r00034r10014");
        single(x, 10000, true);
        single(x, 10035, false);
        single(x, 10040, false);
        single(x, 11039, true);
        single(x, 11040, false);
        single(x, 11139, false);
        single(x, 12000, false);
        single(x, 20034, true);
        single(x, 20035, false);
        single(x, 20040, false);
        single(x, 20134, false);
        single(x, 22000, false);
        single(x, 30005, true);
        single(x, 30006, false);
        single(x, 31020, true);
        single(x, 31019, false);
        single(x, 31030, true);
        single(x, 31031, false);
        single(x, 31130, false);
        single(x, 31099, false);
        single(x, 32000, false);
        single(x, 40005, true);
        single(x, 40004, false);
        single(x, 40060, true);
        single(x, 40061, false);
        single(x, 40105, false);
        single(x, 42005, false);
        single(x, 50001, true);
        single(x, 50060, true);
        single(x, 50061, false);
        single(x, 50000, false);
        single(x, 50101, false);
        single(x, 56160, false);
        single(x, 60035, true);
        single(x, 60036, false);
        single(x, 60000, true);
        single(x, 60100, false);
        single(x, 62000, false);
        single(x, 70000, true);
        single(x, 70001, false);
        single(x, 71015, true);
        single(x, 71016, false);
        single(x, 71100, false);
        single(x, 72000, false);
        single(x, 80000, true);
        single(x, 81000, false);
        single(x, 80100, false);
        single(x, 90105, true);
        single(x, 90106, false);
        single(x, 90000, true);
        single(x, 90001, false);
        single(x, 91000, true);
        single(x, 90200, false);
        single(x, 92000, false);
        single(x, 1, false);
        single(x, 99, false);
        LentRoom lost = Check.device("Ds6060s0060r10039r00021");
        single(lost, 80001, false);
        single(lost, 80002, true);
        LentRoom empty = new LentRoom();
        single(empty, 56060, true);
        single(empty, 10000, false);
        single(empty, 80000, true);
    }

    private static void sequences() {
        LentRoom x = new LentRoom();
        String before = Check.picture(x);
        Check.due("make, write, has one", -1, () -> x.runScript(3, 503041000060001L));
        Check.due("make, write, has two", 2, () -> x.runScript(3, 503041000060002L));
        Check.due("make, write of another", 1, () -> x.runScript(3, 503041100060001L));
        Check.due("no make before", 0, () -> x.runScript(3, 100005030460000L));
        Check.due("zeros before", 0, () -> x.runScript(2, 50304L));
        Check.due("make, room 4", -1, () -> x.runScript(2, 5030470004L));
        Check.due("make, room 5", 1, () -> x.runScript(2, 5030470005L));
        Check.due("make, no trim", 1, () -> x.runScript(3, 503042000050304L));
        Check.same("everything behind runScript", Check.picture(x), before);
        // The copy goes on with what was lost so far.
        LentRoom y = Check.device("Ds6060s0060r10039r00021");
        Check.due("one more is lost", 1, () -> y.runScript(2, 1002280002L));
        Check.due("one more is lost, of 3", -1, () -> y.runScript(2, 1002280003L));
        Check.due("a recall lowers the loans", 1, () -> y.runScript(2, 1002291038L));
        Check.due("about(7)", 2, () -> y.about(7));
        // A write that is refused fails, and a rewrite succeeds.
        LentRoom z = Check.device("Ds0001");
        Check.due("write twice", -1, () -> z.runScript(2, 1000010000L));
        Check.due("write another", 1, () -> z.runScript(2, 1000010001L));
        Check.due("trim between", -1, () -> z.runScript(3, 100002000010001L));
    }

    /** What simulate does, done with the calls themselves. */
    private static int turns(LentRoom x, long seed, int m) {
        int lost = x.about(7);
        long state = seed;
        for (int k = 0; k < m; k++) {
            state = state * 6364136223846793005L + 1442695040888963407L;
            int r = (int) (state >>> 33);
            int s = r / 16 % (x.about(0) == 0 ? 1 : x.about(0));
            int page = r / 128 % 40;
            try {
                switch (r % 16) {
                    case 0 -> x.make(r / 16 % 16, 16 + r / 256 % 40);
                    case 1 -> x.setFloor(s, r / 128 % 20);
                    case 2, 3 -> x.trim(s, page);
                    default -> x.write(s, page);
                }
            } catch (RuntimeException e) {
                continue;
            }
        }
        return 1000 * x.about(1) + x.about(7) - lost;
    }

    private static void simulations() {
        String[] texts = {"D", "Ds0001", "Ds0060s2060s2060", "Ds6060s0060r10039r00021",
            "Ds2040s2040s2040r00019r10022r20019", "Ds1015s1040s1060s1020s1060r10039r40019"};
        int[] counts = {1, 2, 50, 99};
        boolean someLost = false;
        for (String text : texts) {
            for (int m : counts) {
                for (long seed : new long[] {0, 1, -1, 7, 123456789012345L, Long.MIN_VALUE, Long.MAX_VALUE}) {
                    LentRoom x = Check.device(text);
                    String before = Check.picture(x);
                    int want = turns(Check.device(text), seed, m);
                    someLost |= want % 1000 > 0;
                    Check.due(text + " simulate(" + seed + ", " + m + ")", want, () -> x.simulate(seed, m));
                    Check.same("everything behind simulate", Check.picture(x), before);
                }
            }
        }
        Check.same("some simulation loses pages", String.valueOf(someLost), "true");
    }
}
