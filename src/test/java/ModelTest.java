/** Long runs of calls, made by a fixed row of numbers, on the program and on the Model: promises 1 to 27. */
final class ModelTest {
    private static final int RUNS = 1500;
    private static final int CALLS = 512;
    private static final String[] BEGINNINGS = {"D", "Ds2040s1560s1050r00019r10039r20004",
        "Ds6060s0060r10039", "Ds0060s0060s0060s0060s0060r00011r10011r20011r30011r40011",
        "Ds2060s0060s4040r20037r10009f238", "Ds1020s1020s1020s1020s1020", "Ds3060s2560s0540s0060r30039r20004",
        "Ds1560s1560s1560s0060s1515r30039"};

    private static long numbers = 1;

    private static int next(int bound) {
        numbers = numbers * 2862933555777941757L + 3037000493L;
        return (int) ((numbers >>> 33) % bound);
    }

    /** Most often a number that is in range, now and then one around it. */
    private static int near(int bound) {
        int kind = next(24);
        if (kind == 0) {
            return -1;
        }
        if (kind == 1) {
            return bound;
        }
        return kind == 2 ? (next(2) == 0 ? Integer.MIN_VALUE : Integer.MAX_VALUE) : next(bound);
    }

    public static void main(String[] args) {
        for (int run = 0; run < RUNS; run++) {
            LentRoom x = new LentRoom();
            Model model = new Model();
            StringBuilder calls = new StringBuilder();
            String beginning = BEGINNINGS[run % BEGINNINGS.length];
            int made = beginning.length() + 1;
            for (char c : beginning.toCharArray()) {
                x.append(c);
                model.append(c);
            }
            Check.due("load() of " + beginning, model.load(), x::load);
            boolean agrees = true;
            while (made < CALLS && agrees) {
                int more = next(12) == 0 ? 1 + next(12) : 1;
                agrees = more == 1 ? call(x, model, run, calls) : row(x, model, more, calls);
                made += more;
            }
            if (!agrees) {
                break;
            }
        }
        Check.finish();
    }

    /** Writes or trims pages that stand in a row, so that spaces grow and shrink by much. */
    private static boolean row(LentRoom x, Model model, int more, StringBuilder calls) {
        int s = next(Math.max(1, model.about(0)));
        int first = next(40);
        int kind = next(3) < 2 ? 0 : 40;
        boolean agrees = true;
        for (int k = 0; k < more && agrees; k++) {
            int page = (first + k) % 40;
            String want = changed(s, page, 0, kind, calls, model);
            String got = changed(s, page, 0, kind, null, x);
            Check.same(calls.toString(), got, want);
            agrees = got.equals(want);
        }
        return agrees;
    }

    private static boolean call(LentRoom x, Model model, int run, StringBuilder calls) {
        int kind = next(100);
        int spaces = Math.max(1, model.about(0));
        int s = near(spaces);
        int t = near(spaces);
        int page = near(40);
        int size = near(61);
        // a floor that is possible has to lie between these two
        if (kind >= 52 && kind < 58 && s >= 0 && s < model.about(0) && next(3) > 0) {
            int least = model.leastFloor(s);
            size = least - 1 + next(model.mostFloor(s) - least + 3);
        }
        int length = calls.length();
        String got;
        String want;
        if (kind < 70) {
            want = changed(s, page, size, kind, calls, model);
            got = changed(s, page, size, kind, null, x);
        } else if (kind < 99 || next(2) == 0) {
            int what = near(12);
            int commands = near(4);
            long script = script(commands, spaces);
            want = told(new int[] {kind, s, t, page, size, what, commands}, script, calls, model);
            got = told(new int[] {kind, s, t, page, size, what, commands}, script, null, x);
        } else {
            String text = text(spaces);
            want = loaded(text, model);
            got = loaded(text, x);
            calls.append(text).append(' ');
        }
        if (got.equals(want)) {
            return true;
        }
        Check.same("run " + run + ": " + calls + "\nthe last one, from " + calls.substring(length), got, want);
        return false;
    }

    private static String answer(Check.Call call) {
        try {
            return String.valueOf(call.answer());
        } catch (RuntimeException e) {
            return e.getClass().getSimpleName();
        }
    }

    private static void note(StringBuilder calls, String call) {
        if (calls != null) {
            calls.append(call).append(' ');
        }
    }

    private static String changed(int s, int page, int size, int kind, StringBuilder calls, Object on) {
        LentRoom x = on instanceof LentRoom ? (LentRoom) on : null;
        Model m = on instanceof Model ? (Model) on : null;
        if (kind < 40) {
            note(calls, "write " + s + " " + page);
            return answer(() -> x != null ? x.write(s, page) : m.write(s, page));
        }
        if (kind < 52) {
            note(calls, "trim " + s + " " + page);
            return answer(() -> x != null ? x.trim(s, page) : m.trim(s, page));
        }
        if (kind < 58) {
            note(calls, "setFloor " + s + " " + size);
            return answer(() -> x != null ? x.setFloor(s, size) : m.setFloor(s, size));
        }
        if (kind < 61) {
            note(calls, "setCeiling " + s + " " + size);
            return answer(() -> x != null ? x.setCeiling(s, size) : m.setCeiling(s, size));
        }
        if (kind < 63) {
            note(calls, "make " + page + " " + size);
            return answer(() -> x != null ? x.make(page, size) : m.make(page, size));
        }
        if (kind < 67) {
            note(calls, "undo");
            return answer(() -> x != null ? x.undo() : m.undo());
        }
        int slot = size < 0 || size > 55 ? size : size % 2;
        if (kind < 69) {
            note(calls, "save " + slot);
            return answer(() -> x != null ? x.save(slot) : m.save(slot));
        }
        note(calls, "restore " + slot);
        return answer(() -> x != null ? x.restore(slot) : m.restore(slot));
    }

    private static String told(int[] n, long script, StringBuilder calls, Object on) {
        LentRoom x = on instanceof LentRoom ? (LentRoom) on : null;
        Model m = on instanceof Model ? (Model) on : null;
        note(calls, "tell " + java.util.Arrays.toString(n) + " " + script);
        int s = n[1];
        switch (n[0]) {
            case 70: return answer(() -> x != null ? x.about(n[5]) : m.about(n[5]));
            case 71: case 72: case 73: return answer(() -> x != null ? x.space(s, n[5]) : m.space(s, n[5]));
            case 74: return answer(() -> x != null ? x.loans(s, n[2]) : m.loans(s, n[2]));
            case 75: return answer(() -> x != null ? x.time(s, n[3]) : m.time(s, n[3]));
            case 76: return answer(() -> x != null ? x.oldest(s, n[3]) : m.oldest(s, n[3]));
            case 77: return answer(() -> x != null ? x.would(s, n[3]) : m.would(s, n[3]));
            case 78: case 79: return answer(() -> x != null ? x.room(s) : m.room(s));
            case 80: case 81: return answer(() -> x != null ? x.harm(s, n[4]) : m.harm(s, n[4]));
            case 82: return answer(() -> x != null ? x.victim(s) : m.victim(s));
            case 83: return answer(() -> x != null ? x.noisy() : m.noisy());
            case 84: return answer(() -> x != null ? x.mostFloor(s) : m.mostFloor(s));
            case 85: return answer(() -> x != null ? x.leastFloor(s) : m.leastFloor(s));
            case 86: case 87: return answer(() -> x != null ? x.simulate(script, n[4]) : m.simulate(script, n[4]));
            default: return answer(() -> x != null ? x.runScript(n[6], script) : m.runScript(n[6], script));
        }
    }

    private static long script(int commands, int spaces) {
        long script = 0;
        for (int i = 0; i < Math.min(4, commands); i++) {
            int third = next(8) == 0 ? next(3) : 0;
            int second = next(8) == 0 ? next(10) : next(spaces);
            int last = next(4) == 0 ? next(100) : next(20);
            script = 100000 * script + 10000 * next(10) + 1000 * second + 100 * third + last;
        }
        return next(30) == 0 ? script * 10 - 7 : script;
    }

    private static final String SIGNS = "Dswtfr0123456x";

    private static String two(int number) {
        return number < 10 ? "0" + number : String.valueOf(number);
    }

    private static String text(int spaces) {
        StringBuilder text = new StringBuilder("D");
        int commands = next(10) == 0 ? 30 : next(14);
        for (int i = 0; i < commands; i++) {
            int s = next(Math.min(5, spaces + 1));
            switch (next(i < 4 ? 2 : 6)) {
                case 0, 1 -> text.append('s').append(two(next(30))).append(two(1 + next(60)));
                case 2 -> text.append('w').append(s).append(two(next(40)));
                case 3 -> text.append('t').append(s).append(two(next(40)));
                case 4 -> text.append('f').append(s).append(two(next(61)));
                default -> text.append('r').append(s).append(two(next(40))).append(two(next(40)));
            }
        }
        if (next(3) == 0) {
            text.setCharAt(next(text.length()), SIGNS.charAt(next(SIGNS.length())));
        }
        if (next(5) == 0) {
            text.setLength(next(text.length() + 1));
        }
        return text.toString();
    }

    private static String loaded(String text, Object on) {
        LentRoom x = on instanceof LentRoom ? (LentRoom) on : null;
        Model m = on instanceof Model ? (Model) on : null;
        StringBuilder all = new StringBuilder();
        all.append(x != null ? x.clearText() : m.clearText());
        for (char c : text.toCharArray()) {
            all.append(' ').append(answer(() -> x != null ? x.append(c) : m.append(c)));
        }
        all.append(' ').append(x != null ? x.errorPosition() : m.errorPosition());
        return all.append(' ').append(answer(() -> x != null ? x.load() : m.load())).toString();
    }
}
