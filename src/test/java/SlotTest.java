/** Promises 26 and 27: save, restore. */
final class SlotTest {
    private static final Class<IllegalStateException> STATE = IllegalStateException.class;
    private static final Class<IndexOutOfBoundsException> INDEX = IndexOutOfBoundsException.class;

    public static void main(String[] args) {
        LentRoom x = Check.device("Ds2060s2060s2020r00029r10029r20019");
        for (int slot : new int[] {-1, 2, Integer.MIN_VALUE, Integer.MAX_VALUE}) {
            Check.fails(x, "save(" + slot + ")", INDEX, () -> x.save(slot));
            Check.fails(x, "restore(" + slot + ")", INDEX, () -> x.restore(slot));
        }
        Check.fails(x, "restore(0)", STATE, () -> x.restore(0));
        Check.fails(x, "restore(1)", STATE, () -> x.restore(1));
        String first = Check.picture(x);
        Check.due("save(0)", 60, () -> x.save(0));
        Check.fails(x, "restore(1)", STATE, () -> x.restore(1));
        x.trim(0, 15);
        x.write(1, 17);
        Check.due("save(1)", 59, () -> x.save(1));
        String second = Check.picture(x);
        Check.due("undo() behind save", 1, x::undo);
        Check.due("restore(0)", 60, () -> x.restore(0));
        Check.same("everything behind restore(0)", Check.picture(x), first);
        Check.fails(x, "undo() behind restore", STATE, x::undo);
        x.setCeiling(0, 60);
        Check.due("undo() of one action behind restore", 0, x::undo);
        Check.due("restore(1)", 59, () -> x.restore(1));
        Check.same("everything behind restore(1)", Check.picture(x), second);
        x.write(0, 15);
        x.write(0, 15);
        Check.due("the slot keeps it", 59, () -> x.restore(1));
        Check.same("everything behind restore(1) again", Check.picture(x), second);
        Check.due("save(0) over another", 59, () -> x.save(0));
        x.trim(1, 17);
        Check.fails(x, "restore(2)", INDEX, () -> x.restore(2));
        Check.due("undo() behind a restore that throws", 0, x::undo);
        Check.due("restore(0)", 59, () -> x.restore(0));
        Check.same("everything behind restore(0)", Check.picture(x), second);
        textIsKept();
        Check.finish();
    }

    private static void textIsKept() {
        LentRoom x = new LentRoom();
        Check.due("save(0) of an empty device", 0, () -> x.save(0));
        Check.put(x, "Dw");
        x.make(0, 60);
        x.write(0, 0);
        Check.due("restore(0)", 0, () -> x.restore(0));
        Check.due("about(0)", 0, () -> x.about(0));
        Check.due("clearText() behind restore", 2, x::clearText);
        x.make(0, 60);
        x.append('D');
        x.undo();
        Check.due("clearText() behind undo", 1, x::clearText);
        x.save(1);
        x.make(0, 60);
        x.undo();
        Check.due("undo keeps the slots", 0, () -> x.restore(1));
    }
}
