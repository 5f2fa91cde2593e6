/** Promises 24 and 25 at the boundaries that the document names. Behind each of these calls all must be as before. */
final class ScriptEdgeTest {
    private static final String SCRIPT = "Promise 24";
    private static final String SIMULATE = "Promise 25";

    /** Space 0: 5 own, 25 common, 5 loans of space 1, at its ceiling but for two; space 1: 15 own, 10 idle. */
    private static final String TWO = "device(Ds0537s3040r00034r10014) = 0; ";
    /** Two pages of space 1 were lost, and the device is full. */
    private static final String LOST = "device(Ds6060s0060r10039r00021) = 0; ";

    public static void main(String[] args) {
        groups();
        copy();
        write();
        trim();
        setFloor();
        setCeiling();
        make();
        pages();
        room();
        lost();
        loans();
        others();
        decimalNumbers();
        arguments();
        answers();
        simulateCopy();
        turns();
        kindsOfTurns();
        simulateArguments();
        Check.finish();
    }

    /** A script of one command, which succeeds or fails. */
    private static String one(int group, boolean succeeds) {
        return "runScript(1, " + group + ") = " + (succeeds ? "-1; " : "0; ");
    }

    private static void groups() {
        Sentence.of(SCRIPT, "A script has 1 to 3 commands; each is a group of five decimal digits d1 to d5, and the "
            + "first command is the highest group of the number (with zeros before it, if it has fewer digits).")
            .holds("runScript(1, 50001) = -1; runScript(2, 5000110000) = -1; runScript(2, 1000050001) = 0",
                "runScript(3, 500011000020000) = -1; runScript(3, 500012000010000) = 1",
                "runScript(3, 500011000010001) = 2; runScript(3, 500011000060002) = 2",
                "runScript(3, 500011000060001) = -1")
            // fewer digits are zeros before them, and 00000 is a group that fails
            .holds("make(0, 60); runScript(1, 0) = 0; runScript(1, 1) = 0; runScript(1, 9999) = 0",
                "runScript(2, 10000) = 0; runScript(2, 1000010000) = -1; runScript(3, 1000010000) = 0",
                "runScript(3, 100001000010000) = -1; runScript(2, 1000000000) = 1; runScript(3, 100001000000000) = 2",
                "runScript(3, 100000000010000) = 1");
    }

    private static void copy() {
        Sentence.of(SCRIPT, "Runs a script on a copy of the state.")
            .alike("make(0, 60); write(0, 0); runScript(3, 100012000040001) = -1; runScript(1, 50001) = -1",
                "make(0, 60); write(0, 0)")
            .holds("make(0, 60); runScript(1, 10000) = -1; about(1) = 0; runScript(1, 20000) = 0",
                "runScript(2, 1000020000) = -1; runScript(1, 50001) = -1; about(0) = 1; runScript(1, 11000) = 0",
                "runScript(2, 5000111000) = -1");
    }

    private static void write() {
        Sentence.of(SCRIPT, "1 s 0 p p: write(s, pp); succeeds if it is not refused.")
            .holds(TWO, one(10000, true), one(10035, true), one(10039, true), one(10040, false), one(10099, false),
                one(11039, true), one(11040, false), one(12000, false), one(19000, false),
                "runScript(3, 100351003610037) = 2; runScript(3, 100351003610034) = -1")
            .holds(LOST, one(10022, true), one(11000, false), one(11001, false), one(11002, true), one(12000, false))
            .holds("make(0, 1); make(0, 1); make(0, 1); make(0, 1)", one(13000, true), one(14000, false),
                "make(0, 1)", one(14000, true), one(15000, false));
    }

    private static void trim() {
        Sentence.of(SCRIPT, "2 s 0 p p: trim(s, pp).")
            .holds(TWO, one(20000, true), one(20034, true), one(20035, false), one(20039, false), one(20040, false),
                one(20099, false), one(21014, true), one(21015, false), one(22000, false),
                "runScript(3, 200002000060034) = 1; runScript(2, 2000060034) = -1; runScript(2, 2000060035) = 1");
    }

    private static void setFloor() {
        Sentence.of(SCRIPT, "3 s 0 f f: setFloor(s, ff).")
            .holds(TWO, one(30004, false), one(30005, true), one(30006, false), one(31019, false), one(31020, true),
                one(31030, true), one(31031, false), one(31060, false), one(31061, false), one(31099, false),
                one(32000, false), "runScript(2, 3102030015) = -1; runScript(2, 3102030016) = 1")
            .holds("make(0, 60)", one(30000, true), one(30060, true), one(30061, false));
    }

    private static void setCeiling() {
        Sentence.of(SCRIPT, "4 s 0 c c: setCeiling(s, cc).")
            .holds(TWO, one(40004, false), one(40005, true), one(40060, true), one(40061, false), one(40099, false),
                one(41029, false), one(41030, true), one(42010, false), "runScript(2, 4003510035) = 1",
                "runScript(2, 4003610035) = -1")
            .holds("make(0, 60)", one(40000, false), one(40001, true));
    }

    private static void make() {
        Sentence.of(SCRIPT, "5 f f c c: make(ff, cc).")
            .holds(one(50000, false), one(50001, true), one(50060, true), one(50061, false), one(56060, true),
                one(56160, false), one(56161, false), one(50100, false), one(50101, true), one(51009, false),
                one(51010, true), one(59999, false), "runScript(2, 5303053131) = 1; runScript(2, 5303053030) = -1")
            .holds(TWO, one(50001, true), one(50101, false))
            .holds("make(0, 1); make(0, 1); make(0, 1); runScript(2, 5000150001) = -1",
                "runScript(3, 500015000150001) = 2; make(0, 1)", one(50001, true), "make(0, 1)", one(50001, false));
    }

    private static void pages() {
        Sentence.of(SCRIPT, "6 s 0 n n: succeeds if the space s has at least nn written pages.")
            .holds(TWO, one(60000, true), one(60034, true), one(60035, true), one(60036, false), one(60099, false),
                one(61015, true), one(61016, false), one(62000, false))
            .holds("make(0, 60)", one(60000, true), one(60001, false), "fill(0, 0, 39) = 3", one(60040, true),
                one(60041, false));
    }

    private static void room() {
        Sentence.of(SCRIPT, "7 s 0 n n: succeeds if room(s) is at least nn.")
            .holds(TWO, one(70000, true), one(70002, true), one(70003, false), one(71010, true), one(71015, true),
                one(71016, false), one(72000, false), "room(0) = 2; room(1) = 15; runScript(2, 1003570001) = -1",
                "runScript(2, 1003570002) = 1")
            .holds("make(0, 60)", one(70060, true), one(70061, false), one(70099, false), "setCeiling(0, 1)",
                one(70001, true), one(70002, false))
            // what was asked for is not what goes on
            .holds("make(0, 2); runScript(3, 700021000060001) = -1; runScript(3, 700021000060002) = 2",
                "runScript(3, 700021000070001) = -1");
    }

    private static void lost() {
        Sentence.of(SCRIPT, "8 0 0 n n: succeeds if at most nn pages were lost so far.")
            .holds(LOST, one(80000, false), one(80001, false), one(80002, true), one(80003, true), one(80099, true),
                one(80102, false), one(81002, false), one(80199, false), one(81099, false),
                "runScript(2, 1002280002) = 1; runScript(2, 1002280003) = -1; runScript(3, 100221002380003) = 2",
                "runScript(3, 100221002380004) = -1; about(7) = 2")
            .holds(one(80000, true), one(80100, false), one(81000, false));
    }

    private static void loans() {
        Sentence.of(SCRIPT, "9 s l n n: succeeds if s has at least nn loans from l.")
            .holds(TWO, one(90100, true), one(90105, true), one(90106, false), one(90199, false), one(91000, true),
                one(91001, false), one(90000, true), one(90001, false), one(91100, true), one(91101, false),
                one(90200, false), one(92000, false), one(92200, false), one(99900, false),
                "runScript(2, 1003590106) = -1; runScript(2, 2000090105) = 1; runScript(2, 2000090104) = -1");
    }

    private static void others() {
        Sentence.of(SCRIPT, "The commands 1 to 5 fail if the method would throw an exception; commands with spaces "
            + "that do not exist fail, and so does any other group (also one with another digit where a 0 is "
            + "written).")
            .holds(one(10000, false), one(20000, false), one(30000, false), one(40001, false), one(50001, true),
                one(60000, false), one(70000, false), one(80000, true), one(90000, false))
            .holds("make(0, 60); fill(0, 0, 9) = 3", one(11000, false), one(21000, false), one(31000, false),
                one(41001, false), one(61000, false), one(71000, false), one(90100, false), one(91000, false),
                one(10000, true), one(20000, true), one(30000, true), one(40001, true), one(60000, true),
                one(70000, true), one(90000, true))
            .holds("make(0, 60); fill(0, 0, 9) = 3", one(10100, false), one(20100, false), one(30100, false),
                one(40101, false), one(60100, false), one(70100, false), one(10900, false), one(20900, false),
                one(30900, false), one(40901, false), one(60900, false), one(70900, false))
            .holds("make(0, 60)", one(0, false), one(1, false), one(99, false), one(100, false), one(1000, false),
                one(9999, false));
    }

    private static void decimalNumbers() {
        Sentence.of(SCRIPT, "pp, ff, cc and nn are decimal numbers.")
            .holds("make(0, 60); fill(0, 8, 10) = 3", one(20008, true), one(20010, true), one(20001, false),
                one(60003, true), one(60010, false), one(70057, true), one(70058, false), one(80010, true))
            .holds("make(10, 20); make(9, 60)", one(30010, true), one(40010, true), one(40009, false),
                one(51010, true), one(51009, false), one(50910, true));
    }

    private static void arguments() {
        Sentence.of(SCRIPT, "`n`: number of commands, 1 to 3")
            .holds("make(0, 60); runScript(LEAST, 0) ! Argument; runScript(-1, 0) ! Argument",
                "runScript(0, 0) ! Argument; runScript(1, 10000) = -1; runScript(3, 100001000010000) = -1",
                "runScript(4, 0) ! Argument; runScript(4, 10000100001000010) ! Argument",
                "runScript(MOST, 0) ! Argument");
        Sentence.of(SCRIPT, "`script`: the commands, a number of at most 5 * n digits (0 or more)")
            .holds("make(0, 60); runScript(1, LEAST) ! Argument; runScript(1, -1) ! Argument; runScript(1, 0) = 0",
                "runScript(1, 99999) = 0; runScript(1, 100000) ! Argument; runScript(1, MOST) ! Argument",
                "runScript(2, -1) ! Argument; runScript(2, 0) = 0; runScript(2, 9999999999) = 0",
                "runScript(2, 10000000000) ! Argument; runScript(2, MOST) ! Argument; runScript(3, -1) ! Argument",
                "runScript(3, 0) = 0; runScript(3, 999999999999999) = 0; runScript(3, 1000000000000000) ! Argument",
                "runScript(3, MOST) ! Argument; runScript(3, LEAST) ! Argument");
        Sentence.of(SCRIPT, "Throws `IllegalArgumentException` if n is out of range, or if script is negative or has "
            + "more than 5 * n digits")
            .holds("runScript(0, -1) ! Argument; runScript(0, 50001) ! Argument; runScript(4, 50001) ! Argument",
                "runScript(1, -50001) ! Argument; runScript(1, 50001) = -1; runScript(1, 150001) ! Argument",
                "runScript(2, 15000150001) ! Argument; runScript(3, 1500015000150001) ! Argument",
                // a script that begins with zeros is no longer than its number
                "runScript(3, 50001) = 0; runScript(2, 50001) = 0");
    }

    private static void answers() {
        Sentence.of(SCRIPT, "Returns the index, from 0, of the first command that fails; NONE if all succeed.")
            .holds("make(0, 60); runScript(1, 60001) = 0; runScript(2, 6000160001) = 0; runScript(2, 6000060001) = 1",
                "runScript(2, 6000160000) = 0; runScript(3, 600006000060000) = -1; runScript(3, 600016000060000) = 0",
                "runScript(3, 600006000160000) = 1; runScript(3, 600006000060001) = 2",
                "runScript(3, 600006000160001) = 1; runScript(3, 600016000160001) = 0");
    }

    private static void simulateCopy() {
        Sentence.of(SIMULATE, "Simulates m turns on a copy of the state. A long x starts as the seed.")
            .alike("make(0, 60); write(0, 0); simulate(0, 99); simulate(-1, 50); simulate(0, 99)",
                "make(0, 60); write(0, 0)")
            .holds("make(0, 60)", "simulate(7, 1) = " + simulated("make(0, 60)", 7, 1),
                "simulate(8, 99) = " + simulated("make(0, 60)", 8, 99),
                "simulate(7, 1) = " + simulated("make(0, 60)", 7, 1));
    }

    private static void turns() {
        Sentence sentence = Sentence.of(SIMULATE, "Each turn first replaces x by x * 6364136223846793005L + "
            + "1442695040888963407L (with long overflow), and r = (int) (x >>> 33) is computed. s is r / 16 % (the "
            + "number of spaces, or 1 without any), p is r / 128 % 40.");
        String[] states = {"text(D); ", "make(0, 16); ", TWO, LOST, "device(Ds0060s2060s2060) = 0; ",
            "device(Ds1560s1560s1560s1560s0060r40039) = 0; "};
        long[] seeds = {Long.MIN_VALUE, Long.MIN_VALUE + 1, -1, 0, 1, 2, 1L << 33, (1L << 33) - 1, Long.MAX_VALUE};
        for (String state : states) {
            for (long seed : seeds) {
                for (int m : new int[] {1, 2, 98, 99}) {
                    sentence.holds(state, "simulate(" + seed + ", " + m + ") = " + simulated(state, seed, m));
                }
            }
        }
    }

    private static void kindsOfTurns() {
        Sentence sentence = Sentence.of(SIMULATE, "By r % 16: 0: make(r / 16 % 16, 16 + r / 256 % 40). 1: "
            + "setFloor(s, r / 128 % 20). 2 and 3: trim(s, p). 4 to 15: write(s, p). What would throw an exception "
            + "is left out.");
        String[] states = {"text(D); ", "device(Ds1516s0040r00015r10039) = 0; ",
            "device(Ds0060s5560s0560r00039) = 0; "};
        for (String state : states) {
            for (int kind = 0; kind < 16; kind++) {
                long seed = seedOf(kind);
                for (int m : new int[] {1, 60}) {
                    sentence.holds(state, "simulate(" + seed + ", " + m + ") = " + simulated(state, seed, m));
                }
            }
        }
        // Seeds with which a ceiling that was made refuses writes.
        for (int seed : new int[] {17, 56, 58, 63, 74}) {
            sentence.holds("simulate(" + seed + ", 99) = " + simulated("", seed, 99));
        }
        // The only space of a device: a trim of page 39, written or not, and a write of it.
        long trim = seedOf(2, 0, 1, 39);
        long write = seedOf(15, 0, 1, 39);
        sentence.holds("make(0, 60); fill(0, 38, 39) = 3", "simulate(" + trim + ", 1) = 1000",
            "simulate(" + write + ", 1) = 2000", "trim(0, 39) = 1", "simulate(" + trim + ", 1) = 1000",
            "simulate(" + write + ", 1) = 2000");
    }

    private static long seedOf(int kind) {
        long seed = 0;
        while (number(next(seed)) % 16 != kind) {
            seed++;
        }
        return seed;
    }

    private static long seedOf(int kind, int s, int spaces, int page) {
        for (long seed = 0; ; seed++) {
            int r = number(next(seed));
            if (r % 16 == kind && r / 16 % spaces == s && r / 128 % 40 == page) {
                return seed;
            }
        }
    }

    private static long next(long x) {
        return x * 6364136223846793005L + 1442695040888963407L;
    }

    private static int number(long x) {
        return (int) (x >>> 33);
    }

    /** What simulate must answer, found by the calls that its turns stand for. */
    private static String simulated(String state, long seed, int m) {
        Run run = new Run();
        for (String step : state.split(";")) {
            if (!step.isBlank()) {
                run.call(step.substring(0, step.lastIndexOf(')') + 1).trim());
            }
        }
        int lostBefore = Integer.parseInt(run.call("about(7)"));
        long x = seed;
        for (int turn = 0; turn < m; turn++) {
            x = next(x);
            int r = number(x);
            int s = r / 16 % Math.max(1, Integer.parseInt(run.call("about(0)")));
            int page = r / 128 % 40;
            switch (r % 16) {
                case 0 -> run.call("make(" + r / 16 % 16 + ", " + (16 + r / 256 % 40) + ")");
                case 1 -> run.call("setFloor(" + s + ", " + r / 128 % 20 + ")");
                case 2, 3 -> run.call("trim(" + s + ", " + page + ")");
                default -> run.call("write(" + s + ", " + page + ")");
            }
        }
        int pages = Integer.parseInt(run.call("about(1)"));
        int lost = Integer.parseInt(run.call("about(7)")) - lostBefore;
        return String.valueOf(1000 * pages + lost);
    }

    private static void simulateArguments() {
        Sentence.of(SIMULATE, "`seed`: any long")
            .holds("simulate(LEAST, 1) = 0; simulate(-1, 1) = 0; simulate(0, 1) = 0; simulate(MOST, 1) = 0");
        Sentence.of(SIMULATE, "`m`: number of turns, 1 to 99")
            .holds("make(0, 60); simulate(0, LEAST) ! Argument; simulate(0, -1) ! Argument; simulate(0, 0) ! Argument",
                "simulate(0, 1); simulate(0, 99); simulate(0, 100) ! Argument; simulate(0, MOST) ! Argument");
        Sentence.of(SIMULATE, "Returns 1000 * (the written pages at the end) + (the pages that are lost in them).")
            // what was lost before does not count, and a turn in which a page is lost does
            .holds(LOST, "about(1) = 60; about(7) = 2", "simulate(" + seedOf(0) + ", 1) = 60000",
                "simulate(" + seedOf(4, 0, 2, 21) + ", 1) = 60000", "simulate(" + seedOf(4, 0, 2, 22) + ", 1) = 60001",
                "simulate(" + seedOf(15, 1, 2, 0) + ", 1) = 60000", "simulate(" + seedOf(3, 0, 2, 21) + ", 1) = 59000")
            .holds("simulate(" + seedOf(4, 0, 1, 0) + ", 1) = 0", "make(0, 60) = 0",
                "simulate(" + seedOf(4, 0, 1, 0) + ", 1) = 1000");
        Sentence.of(SIMULATE, "Throws `IllegalArgumentException` if m is out of range")
            .holds("simulate(0, 0) ! Argument; simulate(LEAST, 0) ! Argument; simulate(MOST, 100) ! Argument",
                "simulate(0, 1) = 0");
    }
}
