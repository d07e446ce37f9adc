/** Promises 1 to 5: a new object, bed, set, drop, copy. */
public final class BedsTest {
    private static final int BAD = FurrowField.BAD;

    public static void main(String[] args) {
        newObject();
        bed();
        set();
        drop();
        copy();
        Checks.end();
    }

    private static void newObject() {
        FurrowField f = new FurrowField();
        for (int what = 0; what < 7; what++) {
            Checks.due("new: count(" + what + ")", f.count(what), 0);
        }
        for (int bed = 0; bed < 8; bed++) {
            Checks.due("new: drop(" + bed + ")", f.drop(bed), Checks.NULL);
        }
        Checks.dueLine("new", f, 0, 1, 0);
        Checks.dueTrace("new", f);
        Checks.due("new: undo()", f.undo(), FurrowField.STATE);
        Checks.due("new: status()", new FurrowField().status(), 0);
        Checks.due("new: told(0, 0)", f.told(0, 0), BAD);
    }

    private static void bed() {
        FurrowField f = new FurrowField();
        Checks.due("bed(0, 0, 100)", f.bed(0, 0, 100), 100);
        Checks.due("bed(7, 2, 0)", f.bed(7, 2, 0), 0);
        Checks.due("count(2)", f.count(2), 2);
        Checks.due("bed(-1, 0, 1)", f.bed(-1, 0, 1), BAD);
        Checks.due("bed(8, 0, 1)", f.bed(8, 0, 1), BAD);
        Checks.due("bed(1, -1, 1)", f.bed(1, -1, 1), BAD);
        Checks.due("bed(1, 3, 1)", f.bed(1, 3, 1), BAD);
        Checks.due("bed(1, 0, 101)", f.bed(1, 0, 101), BAD);
        Checks.due("bed(1, 3, -1)", f.bed(1, 3, -1), BAD);
        Checks.due("bed(1, 0, -1)", f.bed(1, 0, -1), Checks.SIZE);
        Checks.due("bed(1, 0, MIN)", f.bed(1, 0, Integer.MIN_VALUE), Checks.SIZE);
        Checks.due("count(2) after refusals", f.count(2), 2);

        f.set(0, 3, 77);
        Checks.due("bed(0, 0, -5)", f.bed(0, 0, -5), Checks.SIZE);
        Checks.due("copy finds all 100 still", f.copy(0, 0, 0, 0, 100), 100);
        Checks.due("bed(0, 1, 5)", f.bed(0, 1, 5), 5);
        Checks.due("item 5 is gone", f.set(0, 5, 1), Checks.PLACE);
        Checks.due("count(2) after one in place of one", f.count(2), 2);
        f.bed(0, 1, 8);
        Checks.due("items are 0 anew", f.plant(0, 3, 0), 0);
        Checks.due("x", f.told(0, 0), 0);
    }

    private static void set() {
        FurrowField f = new FurrowField();
        f.bed(0, 0, 3);
        f.bed(1, 1, 3);
        f.bed(2, 2, 3);
        Checks.due("short 32767", f.set(0, 0, 32767), 32767);
        Checks.due("short 32768", f.set(0, 0, 32768), -32768);
        Checks.due("short 65536 + 5", f.set(0, 0, 65541), 5);
        Checks.due("short MIN", f.set(0, 0, Long.MIN_VALUE), 0);
        Checks.due("int 2^31", f.set(1, 2, 1L << 31), Integer.MIN_VALUE);
        Checks.due("int 2^32 + 7", f.set(1, 2, (1L << 32) + 7), 7);
        Checks.due("int 32768", f.set(1, 2, 32768), 32768);
        Checks.due("long MAX", f.set(2, 1, Long.MAX_VALUE), Long.MAX_VALUE);
        Checks.due("long -1", f.set(2, 1, -1), -1);
        Checks.due("set(8)", f.set(8, 0, 1), BAD);
        Checks.due("set(-1)", f.set(-1, 0, 1), BAD);
        Checks.due("set of a missing bed", f.set(3, 0, 1), Checks.NULL);
        Checks.due("set of a missing bed, no place", f.set(3, -1, 1), Checks.NULL);
        Checks.due("set at -1", f.set(0, -1, 1), Checks.PLACE);
        Checks.due("set at 3", f.set(0, 3, 1), Checks.PLACE);
        Checks.due("set at MAX", f.set(0, Integer.MAX_VALUE, 1), Checks.PLACE);
        f.bed(4, 0, 0);
        Checks.due("set in an empty bed", f.set(4, 0, 1), Checks.PLACE);
        f.set(0, 0, 65541);
        f.set(0, 1, -7);
        Checks.due("the narrowed item is planted", f.plant(0, 0, 0), 0);
        Checks.due("x", f.told(0, 0), 5);
        Checks.due("y", f.told(0, 1), -7);
    }

    private static void drop() {
        FurrowField f = new FurrowField();
        f.bed(2, 1, 9);
        f.bed(3, 1, 0);
        Checks.due("drop(2)", f.drop(2), 9);
        Checks.due("drop(2) again", f.drop(2), Checks.NULL);
        Checks.due("drop(3)", f.drop(3), 0);
        Checks.due("count(2)", f.count(2), 0);
        Checks.due("drop(-1)", f.drop(-1), BAD);
        Checks.due("drop(8)", f.drop(8), BAD);
        Checks.due("set after drop", f.set(2, 0, 1), Checks.NULL);
        Checks.due("bed anew", f.bed(2, 0, 4), 4);
        Checks.due("count(2) after", f.count(2), 1);
    }

    private static void copy() {
        FurrowField f = new FurrowField();
        f.bed(0, 1, 6);
        f.bed(1, 1, 4);
        f.bed(2, 0, 6);
        for (int i = 0; i < 6; i++) {
            f.set(0, i, 10 * i + 10);
        }
        Checks.due("copy(0, 1, 1, 0, 3)", f.copy(0, 1, 1, 0, 3), 3);
        dueItems("copied", f, 1, 20, 30, 40, 0);
        Checks.due("copy forward in itself", f.copy(0, 0, 0, 2, 4), 4);
        dueItems("as they were ahead, forward", f, 0, 10, 20, 10, 20, 30, 40);
        Checks.due("copy backward in itself", f.copy(0, 2, 0, 1, 4), 4);
        dueItems("as they were ahead, backward", f, 0, 10, 10, 20, 30, 40, 40);
        Checks.due("copy none at the ends", f.copy(0, 6, 1, 4, 0), 0);
        Checks.due("no such bed a", f.copy(8, 0, 1, 0, 1), BAD);
        Checks.due("no such bed b", f.copy(0, 0, -1, 0, 1), BAD);
        Checks.due("missing a", f.copy(5, 0, 2, 9, 1), Checks.NULL);
        Checks.due("missing b", f.copy(2, -1, 5, 0, 1), Checks.NULL);
        Checks.due("missing, no such bed", f.copy(5, 0, 8, 0, 1), BAD);
        Checks.due("two lanes", f.copy(0, 0, 2, 0, 1), Checks.STORE);
        Checks.due("two lanes, no place", f.copy(0, -1, 2, 0, 1), Checks.STORE);
        Checks.due("two lanes, none", f.copy(0, 0, 2, 0, 0), Checks.STORE);
        Checks.due("i below 0", f.copy(0, -1, 1, 0, 1), Checks.PLACE);
        Checks.due("j below 0", f.copy(0, 0, 1, -1, 1), Checks.PLACE);
        Checks.due("n below 0", f.copy(0, 0, 1, 0, -1), Checks.PLACE);
        Checks.due("beyond the end of a", f.copy(0, 4, 1, 0, 3), Checks.PLACE);
        Checks.due("beyond the end of b", f.copy(0, 0, 1, 2, 3), Checks.PLACE);
        Checks.due("none from beyond", f.copy(0, 7, 1, 0, 0), Checks.PLACE);
        Checks.due("sums that wrap", f.copy(0, Integer.MAX_VALUE, 1, 0, Integer.MAX_VALUE), Checks.PLACE);
        Checks.due("sums that wrap, j", f.copy(0, 0, 1, Integer.MAX_VALUE, 1), Checks.PLACE);
        dueItems("nothing changed by refusals", f, 1, 20, 30, 40, 0);
        dueItems("nor the other", f, 0, 10, 10, 20, 30, 40, 40);
    }

    /** Reads ITEMS by planting each pair of them, which undo() takes back. */
    private static void dueItems(String when, FurrowField f, int bed, int... items) {
        for (int i = 0; i + 1 < items.length; i++) {
            f.plant(bed, i, 0);
            int number = f.count(1) - 1;
            Checks.due(when + ": item " + i, f.told(number, 0), items[i]);
            Checks.due(when + ": item " + (i + 1), f.told(number, 1), items[i + 1]);
            f.undo();
        }
    }
}
