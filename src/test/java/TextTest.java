/** Promises 1 to 5: a new object, append, clearText, errorPosition, load. */
final class TextTest {
    private static final Class<IllegalArgumentException> ARGUMENT = IllegalArgumentException.class;
    private static final Class<IllegalStateException> STATE = IllegalStateException.class;
    private static final Class<IndexOutOfBoundsException> INDEX = IndexOutOfBoundsException.class;

    public static void main(String[] args) {
        newObject();
        buffer();
        errors();
        leftOut();
        loadResets();
        Check.finish();
    }

    private static void newObject() {
        LentRoom x = new LentRoom();
        Check.same("a new object", Check.picture(x), "text 0 0 0 60 60 0 0 0 0 0");
        Check.same("NONE", String.valueOf(LentRoom.NONE), "-1");
        Check.due("noisy()", -1, x::noisy);
        Check.fails(x, "undo()", STATE, x::undo);
        Check.fails(x, "restore(0)", STATE, () -> x.restore(0));
        Check.fails(x, "restore(1)", STATE, () -> x.restore(1));
        Check.fails(x, "space(0, 0)", INDEX, () -> x.space(0, 0));
        Check.due("clearText()", 0, x::clearText);
    }

    private static void buffer() {
        LentRoom x = new LentRoom();
        Check.due("append(0)", 1, () -> x.append(0));
        Check.due("append(255)", 2, () -> x.append(255));
        Check.fails(x, "append(-1)", ARGUMENT, () -> x.append(-1));
        Check.fails(x, "append(256)", ARGUMENT, () -> x.append(256));
        Check.due("clearText()", 2, x::clearText);
        Check.due("clearText()", 0, x::clearText);
        x.append('D');
        for (int n = 2; n <= 120; n++) {
            int length = n;
            Check.due("append of the " + n + "th", length, () -> x.append("w000".charAt((length - 2) % 4)));
        }
        Check.fails(x, "append of the 121st", STATE, () -> x.append('w'));
        Check.fails(x, "append(256) to a full text", ARGUMENT, () -> x.append(256));
        Check.due("errorPosition() of 120", 120, x::errorPosition);
        Check.fails(x, "load() of 120", STATE, x::load);
        Check.due("clearText()", 120, x::clearText);
        Check.due("append('D')", 1, () -> x.append('D'));
        Check.due("load()", 0, x::load);
        Check.due("clearText() behind load", 1, x::clearText);
    }

    private static void error(String text, int want) {
        LentRoom x = new LentRoom();
        Check.put(x, text);
        Check.due("errorPosition() of " + text, want, x::errorPosition);
        if (want == -1) {
            x.load();
            Check.due("errorPosition() behind load of " + text, -1, x::errorPosition);
        } else {
            Check.fails(x, "load() of " + text, STATE, x::load);
        }
    }

    private static void errors() {
        error("", 0);
        error("D", -1);
        error("d", 0);
        error("sD", 0);
        error("DD", 1);
        error("D ", 1);
        error("D0", 1);
        error("Dx", 1);
        error("DS", 1);
        error("D\u00e9", 1);
        // floors 00 to 60, ceilings 01 to 60
        error("Ds", 2);
        error("Ds7", 2);
        error("Ds6", 3);
        error("Ds61", 3);
        error("Ds60", 4);
        error("Ds607", 4);
        error("Ds606", 5);
        error("Ds6061", 5);
        error("Ds6060", -1);
        error("Ds0000", 5);
        error("Ds0001", -1);
        error("Ds000", 5);
        error("Ds59", 4);
        error("Ds5959", -1);
        error("Ds0a", 3);
        error("Dsa", 2);
        error("Ds00/", 4);
        error("Ds00:", 4);
        error("Ds3020", -1);
        error("Ds30200", 6);
        // spaces 0 to 4, pages 00 to 39
        for (String letter : new String[] {"w", "t"}) {
            error("D" + letter, 2);
            error("D" + letter + "5", 2);
            error("D" + letter + "4", 3);
            error("D" + letter + "44", 3);
            error("D" + letter + "43", 4);
            error("D" + letter + "43x", 4);
            error("D" + letter + "439", -1);
            error("D" + letter + "000", -1);
            error("D" + letter + "0000", 5);
            error("D" + letter + letter, 2);
        }
        error("Df5", 2);
        error("Df4", 3);
        error("Df47", 3);
        error("Df460", -1);
        error("Df461", 4);
        error("Df400", -1);
        error("Df459", -1);
        error("Dr5", 2);
        error("Dr04", 3);
        error("Dr039", 5);
        error("Dr0394", 5);
        error("Dr0393", 6);
        error("Dr03939", -1);
        error("Dr03900", -1);
        error("Dr039001", 7);
        error("Ds0101w000t000f000r00000w", 25);
        error("Ds0101w000t000f000r00000", -1);
    }

    private static void left(String text, int want) {
        LentRoom x = new LentRoom();
        Check.put(x, text);
        Check.due("load() of " + text, want, x::load);
    }

    private static void leftOut() {
        left("D", 0);
        left("Ds3020", 1);
        left("Ds6060s0001", 0);
        left("Ds6060s0101", 1);
        left("Ds0001s0001s0001s0001s0001s0001", 1);
        left("Dw000", 1);
        left("Dt000", 1);
        left("Df000", 1);
        left("Ds0001t000w000t000t000", 2);
        left("Ds1020f021f020f060", 2);
        // refused writes are not left out; a range without its space is, once, if it has a page
        left("Ds0001w000w001", 0);
        left("Dr00039", 1);
        left("Dr00000", 1);
        left("Dr00100", 0);
        left("Dr10039r43900", 1);
        left("Ds0060r00039r00500", 0);

        LentRoom x = Check.device("Ds0503w000s0502w000w001w002f004r00501r00305");
        Check.due("space(0, 1)", 0, () -> x.about(0));
        LentRoom y = Check.device("Ds0508w000w001w000w002f004t001r00501r00305");
        Check.same("times", times(y, 0, 7), "3 -1 4 5 6 7 -1 ");
        Check.due("space(0, 0)", 4, () -> y.space(0, 0));
        Check.due("space(0, 3)", 4, () -> y.space(0, 3));
        Check.due("space(0, 4)", 1, () -> y.space(0, 4));
        Check.due("about(5)", 7, () -> y.about(5));
        LentRoom z = Check.device("Ds0002r00039");
        Check.due("about(1)", 2, () -> z.about(1));
        Check.due("about(8)", 38, () -> z.about(8));
    }

    private static String times(LentRoom x, int s, int pages) {
        StringBuilder all = new StringBuilder();
        for (int page = 0; page < pages; page++) {
            all.append(x.time(s, page)).append(' ');
        }
        return all.toString();
    }

    private static void loadResets() {
        LentRoom x = Check.device("Ds1020s3030r00019r10009");
        x.write(1, 30);
        x.save(0);
        x.save(1);
        Check.put(x, "Dx");
        Check.fails(x, "load()", STATE, x::load);
        Check.due("restore(0) behind a load that throws", 30 + 1, () -> x.restore(0));
        x.write(1, 31);
        Check.put(x, "Dx");
        Check.fails(x, "load()", STATE, x::load);
        Check.due("undo() behind a load that throws", 0, x::undo);
        x.write(1, 31);
        Check.put(x, "Ds0001");
        Check.due("load()", 0, x::load);
        Check.fails(x, "undo()", STATE, x::undo);
        Check.fails(x, "restore(0)", STATE, () -> x.restore(0));
        Check.fails(x, "restore(1)", STATE, () -> x.restore(1));
        Check.same("all behind load", Check.picture(x), Check.picture(Check.device("Ds0001")));
        Check.due("load() again", 0, x::load);
        Check.due("clearText()", 6, x::clearText);
    }
}
