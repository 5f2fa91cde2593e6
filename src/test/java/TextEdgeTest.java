/** What the document says of the text, and promises 2 to 5, at the boundaries that it names. */
final class TextEdgeTest {
    private static final String TEXT = "TEXT";
    /** 120 signs that are a device: 3 spaces and 26 writes. */
    private static final String FULL = "Ds2060s2060s2060" + "w000w101w202w339".repeat(6) + "w004w104";

    public static void main(String[] args) {
        append();
        clearText();
        buffer();
        commands();
        spaces();
        writesAndTrims();
        floors();
        ranges();
        leftOut();
        blanks();
        errorPosition();
        endsTooSoon();
        load();
        Check.finish();
    }

    /** That text has its error there; a text without error (-1) can be loaded, and another one can't. */
    private static String error(String text, int position) {
        String loaded = position == -1 ? "load(); " : "load() ! State; ";
        return "text(" + text + "); errorPosition() = " + position + "; " + loaded;
    }

    private static void append() {
        Sentence.of("Promise 2", "`c`: character code, 0 to 255")
            .holds("append(LEAST) ! Argument; append(-1) ! Argument; append(0) = 1; append(255) = 2",
                "append(256) ! Argument; append(MOST) ! Argument; errorPosition() = 0; clearText() = 2")
            // a code is not cut to what fits into a sign
            .holds("append(324) ! Argument; append(65604) ! Argument; append(68) = 1; errorPosition() = -1");
        Sentence.of("Promise 2", "Returns the new length of the text.")
            .holds("append(68) = 1; append(68) = 2; clearText() = 2; append(68) = 1")
            .holds(Sentence.each("append(68) = #", 1, 120));
        Sentence.of("Promise 2", "Throws `IllegalArgumentException` if c is out of range")
            .holds("append(-1) ! Argument; append(256) ! Argument; append(68) = 1; append(-1) ! Argument",
                "append(256) ! Argument; clearText() = 1", "text(" + FULL + ") = 120", "append(-1) ! Argument",
                "append(256) ! Argument; append(0) ! State");
        Sentence.of("Promise 2", "Throws `IllegalStateException` if the text already has 120 characters")
            .holds("text(" + FULL.substring(0, 118) + ") = 118", "append(48) = 119; append(52) = 120",
                "append(52) ! State; append(0) ! State; append(255) ! State; load() = 6; append(52) ! State",
                "clearText() = 120; append(68) = 1");
    }

    private static void clearText() {
        Sentence.of("Promise 3", "Empties the text buffer.").alike("text(Dw000); clearText()", "clearText()")
            .alike("text(" + FULL + "); clearText(); append(68)", "append(68)");
        Sentence.of("Promise 3", "Returns the previous length of the text.")
            .holds("clearText() = 0; append(0) = 1; clearText() = 1; clearText() = 0; append(68) = 1",
                "errorPosition() = -1")
            .holds("text(" + FULL.substring(0, 119) + ") = 119", "clearText() = 119", "text(" + FULL + ") = 120",
                "clearText() = 120; clearText() = 0");
    }

    private static void buffer() {
        Sentence.of(TEXT, "The object has a text buffer of at most 120 characters.")
            .holds("text(" + FULL + ") = 120", "append(119) ! State; errorPosition() = -1; load() = 6; about(0) = 3",
                "about(1) = 5; about(5) = 20; time(0, 4) = 19; time(1, 4) = 20; clearText() = 120")
            .holds("text(" + FULL.substring(0, 119) + ") = 119", "errorPosition() = 119; append(53) = 120",
                "append(48) ! State; errorPosition() = -1; load() = 6; time(1, 5) = 20")
            .holds("text(" + "D".repeat(120) + ") = 120", "errorPosition() = 1; append(68) ! State; load() ! State");
    }

    private static void commands() {
        Sentence.of(TEXT, "A device as a text is D, and then any number of commands:")
            .holds(error("", 0), error("D", -1), "about(0) = 0", error("d", 0), error("w000", 0), error("DD", 1),
                error("DDs0001", 1))
            .holds(error("Ds0001", -1), "about(0) = 1", error("Ds0001w000t000f000r00000", -1), "about(0) = 1",
                "time(0, 0) = 2")
            .holds(error("Ds0001D", 6), error("Da", 1), error("DS0001", 1), error("D0", 1), error("D4", 1),
                error("Ds0001w0000", 10), error("Ds0001w00s", 9), error("Dq", 1), error("Du", 1), error("Dv", 1),
                error("Dx", 1), error("De", 1), error("Dg", 1))
            .holds("append(68); append(0); errorPosition() = 1; load() ! State; clearText() = 2; append(68)",
                "append(255); errorPosition() = 1; load() ! State; clearText() = 2; append(0); errorPosition() = 0",
                "clearText(); append(196); errorPosition() = 0");
    }

    private static void spaces() {
        Sentence.of(TEXT, "s, two digits for a floor (00 to 60) and two for a ceiling (01 to 60): a space is made;")
            .holds(error("Ds6060", -1), "space(0, 0) = 60; space(0, 1) = 60", error("Ds6160", 3), error("Ds69", 3),
                error("Ds70", 2), error("Ds99", 2), error("Ds59", 4), error("Ds7", 2), error("Ds6", 3),
                error("Ds60", 4), error("Ds0", 3))
            .holds(error("Ds0001", -1), "space(0, 0) = 0; space(0, 1) = 1", error("Ds0000", 5), error("Ds0061", 5),
                error("Ds0069", 5), error("Ds0070", 4), error("Ds0099", 4), error("Ds000", 5), error("Ds006", 5),
                error("Ds007", 4))
            .holds(error("Ds0060", -1), "space(0, 1) = 60", error("Ds0059", -1), "space(0, 1) = 59",
                error("Ds0010", -1), "space(0, 1) = 10", error("Ds0009", -1), "space(0, 1) = 9", error("Ds0100", 5),
                error("Ds0101", -1))
            .holds(error("Ds5959", -1), "space(0, 0) = 59", error("Ds1234", -1), "space(0, 0) = 12; space(0, 1) = 34",
                error("Ds12345", 6))
            // a ceiling less than the floor is a text, but no space
            .holds("device(Ds3029) = 1; about(0) = 0; device(Ds3030) = 0; about(0) = 1; device(Ds6001) = 1",
                "device(Ds6059) = 1");
    }

    private static void writesAndTrims() {
        Sentence.of(TEXT, "w, a digit for a space (0 to 4) and two for a page (00 to 39): a write; t, likewise: a "
            + "trim;")
            .holds(letter('w'), letter('t'))
            .holds("device(Ds0001s0001s0001s0001s0001w439w000) = 0; time(4, 39) = 1; time(0, 0) = 2; about(1) = 2")
            .holds("device(Ds0001s0001s0001s0001s0001w439w000t439) = 0; time(4, 39) = -1; time(0, 0) = 2; about(1) = 1",
                "about(5) = 2; device(Ds0001s0001s0001s0001s0001w439w000t000) = 0; time(4, 39) = 1; time(0, 0) = -1");
    }

    private static String letter(char c) {
        String d = "D" + c;
        return error(d, 2) + error(d + "5", 2) + error(d + "9", 2) + error(d + "4", 3) + error(d + "44", 3)
            + error(d + "49", 3) + error(d + "43", 4) + error(d + "439", -1) + error(d + "000", -1)
            + error(d + "440", 3) + error(d + "4390", 5) + error(d + "0a0", 3) + error(d + "00a", 4)
            + error(d + "a00", 2);
    }

    private static void floors() {
        Sentence.of(TEXT, "f, a digit for a space, and two for a floor (00 to 60): its floor is changed;")
            .holds(error("Df", 2), error("Df5", 2), error("Df4", 3), error("Df47", 3), error("Df46", 4),
                error("Df461", 4), error("Df469", 4), error("Df460", -1), error("Df459", -1), error("Df400", -1),
                error("Df000", -1), error("Df0000", 5), error("Df0w00", 3))
            .holds("device(Ds0060f060) = 0; space(0, 0) = 60; device(Ds6060f000) = 0; space(0, 0) = 0",
                "device(Ds0059f060) = 1; space(0, 0) = 0; device(Ds0001s0060s0001s0001s0001f159f401) = 0",
                "space(1, 0) = 59; space(4, 0) = 1; space(0, 0) = 0");
    }

    private static void ranges() {
        Sentence.of(TEXT, "two digits twice for pages: writes of all pages from the first to the second one (none if "
            + "that is lower;")
            .holds(error("Dr", 2), error("Dr5", 2), error("Dr4", 3), error("Dr44", 3), error("Dr439", 5),
                error("Dr4394", 5), error("Dr4393", 6), error("Dr43939", -1), error("Dr40000", -1),
                error("Dr43900", -1), error("Dr439390", 7), error("Dr439w", 5))
            .holds("device(Ds0060r00039) = 0; space(0, 2) = 40; time(0, 0) = 1; time(0, 39) = 40")
            .holds("device(Ds0060r00505) = 0; space(0, 2) = 1; time(0, 5) = 1; device(Ds0060r00504) = 0",
                "space(0, 2) = 0; about(5) = 0; device(Ds0060r00506) = 0; space(0, 2) = 2; time(0, 6) = 2",
                "device(Ds0060r03900) = 0; space(0, 2) = 0")
            .holds("device(Ds0060r00000) = 0; time(0, 0) = 1; about(1) = 1; device(Ds0060r03939) = 0; time(0, 39) = 1",
                "about(1) = 1");
        Sentence.of(TEXT, "with such a space missing, the command is left out once if there is any).")
            .holds("device(Dr00000) = 1; device(Dr00039) = 1; device(Dr00100) = 0; device(Dr03938) = 0",
                "device(Dr03939) = 1; device(Dr43900) = 0; device(Ds0060r10002) = 1; about(1) = 0",
                "device(Ds0060r10201) = 0; device(Ds0060r00002) = 0; about(1) = 3",
                "device(Ds0001s0001s0001s0001r40001) = 1; device(Ds0001s0001s0001s0001s0001r40001) = 0; about(8) = 1");
    }

    private static void leftOut() {
        Sentence.of(TEXT, "Commands that would throw an exception are left out (writes that are refused throw none).")
            .holds("device(Dw000) = 1; device(Ds0001w000) = 0; device(Ds0001w100) = 1; about(1) = 0",
                "device(Ds0001w000w001) = 0; about(8) = 1; device(Ds0001r00039) = 0; about(8) = 39; about(1) = 1")
            .holds("device(Dt000) = 1; device(Ds0001t000) = 1; device(Ds0001w000t000) = 0",
                "device(Ds0001w000t000t000) = 1; device(Ds0001w000t001) = 1")
            .holds("device(Df000) = 1; device(Ds0020f020) = 0; device(Ds0020f021) = 1; device(Ds2020w000f000) = 1",
                "space(0, 0) = 20; device(Ds2020w000f001) = 0; device(Ds2060s4040f021) = 1",
                "device(Ds2060s3940f021) = 0; about(2) = 0")
            .holds("device(Ds0201) = 1; device(Ds0202) = 0; device(Ds6060s0101) = 1; about(0) = 1",
                "device(Ds6060s0001) = 0; about(0) = 2; device(Ds0001s0001s0001s0001s0001) = 0; about(0) = 5",
                "device(Ds0001s0001s0001s0001s0001s0001) = 1; about(0) = 5")
            // the commands behind one that is left out are done
            .holds("device(Dw000s3020t000s0001w000t001f002t000w039) = 5; about(1) = 1; time(0, 39) = 2; about(0) = 1");
    }

    private static void blanks() {
        Sentence.of(TEXT, "There are no blanks.")
            .holds("append(32); errorPosition() = 0; append(68); errorPosition() = 0; load() ! State; clearText()",
                "append(68); append(32); errorPosition() = 1; load() ! State; append(119); errorPosition() = 1")
            .holds("text(Dw); append(32); errorPosition() = 2; load() ! State; text(Dw0); append(32)",
                "errorPosition() = 3; text(Dw00); append(32); errorPosition() = 4; text(Dw000); append(32)",
                "errorPosition() = 5; load() ! State; text(Dw000); append(9); errorPosition() = 5; load() ! State",
                "text(Dw000); append(10); errorPosition() = 5; text(Dw000); append(0); errorPosition() = 5",
                "load() ! State");
    }

    private static void errorPosition() {
        Sentence.of(TEXT, "The error position is the index of the first character that these rules do not allow at "
            + "its place (a digit is not allowed if no number that is allowed begins with it and those before it);")
            .holds(error("x", 0), error("Dx", 1), error("Dwx", 2), error("Dw0x", 3), error("Dw00x", 4),
                error("Dw000x", 5), error("Dw000xx", 5), error("Dxw9", 1))
            // what stands behind it does not count
            .holds(error("Ds00001", 5), error("Ds0000w000", 5), error("Dr00099", 5), error("Dr00050", 5),
                error("Dw0094", 5), error("Dw40099", 5), error("Ds610", 3), error("Dw50x", 2), error("Df0615", 4))
            // signs next to the digits
            .holds(error("Ds/", 2), error("Ds:", 2), error("Ds0/", 3), error("Ds0:", 3), error("Ds00/", 4),
                error("Ds00:", 4), error("Ds000:", 5), error("Ds006/", 5), error("Dw/", 2), error("Dw:", 2),
                error("Dw0/", 3), error("Dw0:", 3), error("Dw00/", 4), error("Dw00:", 4))
            .holds("append(68); append(119); append(178); errorPosition() = 2; load() ! State; clearText(); append(68)",
                "append(247); errorPosition() = 1; load() ! State");
        Sentence.of("Promise 4", "Returns the error position of the text; NONE if it is a device.")
            .holds("errorPosition() = 0; append(68) = 1; errorPosition() = -1; append(119) = 2; errorPosition() = 2",
                "append(52) = 3; errorPosition() = 3; append(51) = 4; errorPosition() = 4; append(57) = 5",
                "errorPosition() = -1; append(57) = 6; errorPosition() = 5; about(0) = 0; clearText() = 6",
                "errorPosition() = 0");
    }

    private static void endsTooSoon() {
        Sentence.of(TEXT, "if the text ends too soon, it is the length of the text.")
            .holds(error("", 0), error("Ds", 2), error("Ds0", 3), error("Ds00", 4), error("Ds006", 5),
                error("Ds0060", -1), error("Dw", 2), error("Dw0", 3), error("Dw00", 4), error("Dw000", -1),
                error("Dt", 2), error("Dt00", 4), error("Df", 2), error("Df00", 4))
            .holds(error("Dr", 2), error("Dr0", 3), error("Dr00", 4), error("Dr000", 5), error("Dr0000", 6),
                error("Dr00000", -1), "text(" + FULL.substring(0, 116) + "r000)", "errorPosition() = 120",
                "load() ! State; clearText() = 120");
    }

    private static void load() {
        Sentence.of("Promise 5", "Makes everything as in a new object, and then does the commands of the text. "
            + "Behind it no state is remembered, and both save slots are empty. Keeps the text.")
            .alike("make(9, 9); make(0, 60); fill(1, 0, 9); save(0); save(1); trim(1, 3); device(Ds0060w001)",
                "device(Ds0060w001)")
            .alike("device(Ds6060s0060r10029r00039r10039); save(1); device(D)", "device(D)")
            .alike("device(Ds2060s0060s4040r20037r10009r00039); write(0, 39); text(Ds0030); load(); load()",
                "device(Ds0030)")
            .holds("device(Ds0060w000) = 0; undo() ! State; restore(0) ! State; restore(1) ! State; save(1) = 1",
                "write(0, 1) = 3; load() = 0; undo() ! State; restore(1) ! State; restore(0) ! State; about(1) = 1",
                "about(5) = 1; clearText() = 10; clearText() = 0; load() ! State; about(1) = 1");
        Sentence.of("Promise 5", "Returns the number of commands that are left out.")
            .holds("device(D) = 0; device(Dw000) = 1", "device(D" + "w000".repeat(29) + ") = 29",
                "device(D" + "r00039".repeat(19) + ") = 19");
        Sentence.of("Promise 5", "Throws `IllegalStateException` if the text is not a device")
            .holds("load() ! State; text(d) = 1; load() ! State; text(D) = 1; load() = 0; text(Ds006) = 5",
                "load() ! State; append(48) = 6; load() = 0")
            .holds("device(Ds0060w000) = 0; write(0, 1) = 3; save(0) = 2; save(1) = 2; write(0, 2) = 3",
                "text(Dw0000) = 6; load() ! State; undo() = 1; about(1) = 2; restore(0) = 2; clearText() = 6",
                "load() ! State; restore(1) = 2");
    }
}
