/** Compares the answers of calls with those that are due, and counts the wrong ones. */
final class Check {
    interface Call {
        int answer();
    }

    private static int wrong = 0;

    private Check() {
    }

    static void due(String call, int want, Call made) {
        String got;
        try {
            got = String.valueOf(made.answer());
        } catch (RuntimeException e) {
            got = e.getClass().getSimpleName();
        }
        same(call, got, String.valueOf(want));
    }

    /** The call must throw exactly this exception, and leave everything that can be seen as it was. */
    static void fails(LentRoom x, String call, Class<? extends RuntimeException> want, Call made) {
        String before = picture(x);
        String got;
        try {
            got = String.valueOf(made.answer());
        } catch (RuntimeException e) {
            got = e.getClass().getSimpleName();
        }
        same(call, got, want.getSimpleName());
        same("everything behind " + call, picture(x), before);
    }

    static void same(String what, String got, String want) {
        if (!got.equals(want)) {
            wrong++;
            System.out.println(what + " answered " + got + ", due is " + want);
        }
    }

    /** All that the methods without effect tell. */
    static String picture(LentRoom x) {
        StringBuilder all = new StringBuilder();
        all.append("text ").append(x.errorPosition());
        for (int what = 0; what <= 8; what++) {
            all.append(' ').append(x.about(what));
        }
        for (int s = 0; s < x.about(0); s++) {
            all.append("\nspace ").append(s).append(':');
            for (int what = 0; what <= 10; what++) {
                all.append(' ').append(x.space(s, what));
            }
            all.append(" loans");
            for (int lender = 0; lender < x.about(0); lender++) {
                all.append(' ').append(x.loans(s, lender));
            }
            all.append(" times");
            for (int page = 0; page < 40; page++) {
                all.append(' ').append(x.time(s, page));
            }
        }
        return all.toString();
    }

    static void put(LentRoom x, String text) {
        x.clearText();
        for (char c : text.toCharArray()) {
            x.append(c);
        }
    }

    /** A new object that has loaded that text. */
    static LentRoom device(String text) {
        LentRoom x = new LentRoom();
        put(x, text);
        x.load();
        return x;
    }

    static void writeAll(LentRoom x, int s, int first, int last) {
        for (int page = first; page <= last; page++) {
            x.write(s, page);
        }
    }

    static void finish() {
        if (wrong > 0) {
            System.out.println(wrong + " answers are wrong");
            System.exit(1);
        }
    }
}
