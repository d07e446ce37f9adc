/** Promises 2 to 5, sentence by sentence: the last good number and the first that is not, on both sides. */
public final class BedsEdgesTest {
    private static final int BAD = FurrowField.BAD, MIN = Integer.MIN_VALUE, MAX = Integer.MAX_VALUE;
    private static final int[] NO_BED = {-1, 8, MIN, MAX};

    public static void main(String[] args) {
        bedInPlaceOfAnother();
        bedNumbers();
        bedLanes();
        bedSizes();
        bedFewerThanNone();
        setLowestBits();
        setBedNumbers();
        setMissing();
        setPlaces();
        dropFromNowOn();
        dropNumbers();
        dropMissing();
        copyAsTheyWereAhead();
        copyAllBits();
        copyNone();
        copyBedNumbers();
        copyMissing();
        copyTwoLanes();
        copyPlacesAtTheEnds();
        copySumsThatWrap();
        Checks.end();
    }

    // ---- promise 2

    /** "A BED of a LANE with n ITEMS, in place of what is there: n." */
    private static void bedInPlaceOfAnother() {
        FurrowField f = new FurrowField();
        f.bed(3, 2, 100);
        for (int i = 0; i < 100; i++) {
            f.set(3, i, 9);
        }
        Checks.due("fewer, of another LANE", f.bed(3, 0, 2), 2);
        Checks.due("ITEM 1 is there", f.set(3, 1, 65536), 0);
        Checks.due("ITEM 2 is not", f.set(3, 2, 1), Checks.PLACE);
        Checks.due("more again", f.bed(3, 1, 100), 100);
        for (int i = 0; i < 99; i++) {
            f.plant(3, i, 0);
            Checks.due("ITEM " + i + " is 0", f.told(0, 0), 0);
            Checks.due("ITEM " + (i + 1) + " is 0", f.told(0, 1), 0);
            f.undo();
        }
        Checks.due("still one BED", f.count(2), 1);
        Checks.due("none", f.bed(3, 1, 0), 0);
        Checks.due("an empty BED is there", f.count(2), 1);
    }

    private static void bedNumbers() {
        FurrowField f = new FurrowField();
        for (int bed : NO_BED) {
            Checks.due("bed(" + bed + ")", f.bed(bed, 0, 1), BAD);
        }
        Checks.due("none was laid", f.count(2), 0);
        Checks.due("bed(0)", f.bed(0, 0, 1), 1);
        Checks.due("bed(7)", f.bed(7, 0, 1), 1);
        Checks.due("two were laid", f.count(2), 2);
    }

    private static void bedLanes() {
        FurrowField f = new FurrowField();
        for (int lane : new int[] {-1, 3, MIN, MAX}) {
            Checks.due("LANE " + lane, f.bed(0, lane, 1), BAD);
        }
        Checks.due("none was laid", f.count(2), 0);
        for (int lane = 0; lane < 3; lane++) {
            Checks.due("LANE " + lane, f.bed(lane, lane, 1), 1);
        }
        Checks.due("three were laid", f.count(2), 3);
    }

    /** "n above 100" */
    private static void bedSizes() {
        FurrowField f = new FurrowField();
        Checks.due("101", f.bed(0, 0, 101), BAD);
        Checks.due("MAX", f.bed(0, 0, MAX), BAD);
        Checks.due("none was laid", f.count(2), 0);
        for (int n = 0; n <= 100; n++) {
            Checks.due("n " + n, f.bed(0, n % 3, n), n);
            Checks.due("behind the end of " + n, f.set(0, n, 1), Checks.PLACE);
            Checks.due("the last of " + n, f.set(0, n - 1, 1), n == 0 ? Checks.PLACE : 1);
        }
    }

    /** "SIZE (fewer than none)" */
    private static void bedFewerThanNone() {
        FurrowField f = new FurrowField();
        Checks.due("-1 where none is", f.bed(0, 0, -1), Checks.SIZE);
        Checks.due("none was laid", f.count(2), 0);
        f.bed(0, 0, 2);
        f.set(0, 0, 8);
        Checks.due("-1 where one is", f.bed(0, 1, -1), Checks.SIZE);
        Checks.due("MIN where one is", f.bed(0, 1, MIN), Checks.SIZE);
        Checks.due("its LANE stays", f.set(0, 1, 32768), -32768);
        f.set(0, 1, 6);
        f.plant(0, 0, 0);
        Checks.due("its ITEMS stay", f.told(0, 0), 8);
        Checks.due("0 is not fewer than none", f.bed(0, 1, 0), 0);
    }

    // ---- promise 3

    /** "ITEM i becomes v, its lowest bits, as many as the LANE has: what it is then." */
    private static void setLowestBits() {
        long minInt = MIN;
        long maxInt = MAX;
        long[][] due = {
            // v, as a short, as an int; a long is v itself.
            {0, 0, 0}, {-1, -1, -1}, {32767, 32767, 32767}, {32768, -32768, 32768},
            {-32768, -32768, -32768}, {-32769, 32767, -32769}, {65535, -1, 65535}, {65536, 0, 65536},
            {-65536, 0, -65536}, {maxInt, -1, maxInt}, {maxInt + 1, 0, minInt}, {minInt, 0, minInt},
            {minInt - 1, -1, maxInt}, {4294967295L, -1, -1}, {4294967296L, 0, 0}, {4294967296L + 300, 300, 300},
            {Long.MAX_VALUE, -1, -1}, {Long.MIN_VALUE, 0, 0}, {Long.MIN_VALUE + 300, 300, 300},
            {Long.MAX_VALUE - 32768, 32767, -32769}};
        FurrowField f = new FurrowField();
        for (int lane = 0; lane < 3; lane++) {
            f.bed(lane, lane, 1);
        }
        for (long[] row : due) {
            Checks.due("short " + row[0], f.set(0, 0, row[0]), row[1]);
            Checks.due("int " + row[0], f.set(1, 0, row[0]), row[2]);
            Checks.due("long " + row[0], f.set(2, 0, row[0]), row[0]);
        }
    }

    private static void setBedNumbers() {
        FurrowField f = new FurrowField();
        f.bed(0, 0, 1);
        f.bed(7, 0, 1);
        for (int bed : NO_BED) {
            Checks.due("set(" + bed + ")", f.set(bed, 0, 1), BAD);
        }
        Checks.due("set(0)", f.set(0, 0, 1), 1);
        Checks.due("set(7)", f.set(7, 0, 1), 1);
    }

    private static void setMissing() {
        FurrowField f = new FurrowField();
        f.bed(1, 0, 1);
        Checks.due("never laid", f.set(0, 0, 1), Checks.NULL);
        f.drop(1);
        Checks.due("dropped", f.set(1, 0, 1), Checks.NULL);
        Checks.due("dropped, no such place", f.set(1, 1, 1), Checks.NULL);
    }

    private static void setPlaces() {
        FurrowField f = new FurrowField();
        int[] sizes = {0, 1, 2, 99, 100};
        for (int size : sizes) {
            f.bed(0, 1, size);
            for (int i : new int[] {-1, size, size + 1, MIN, MAX, -size - 1}) {
                Checks.due("ITEM " + i + " of " + size, f.set(0, i, 1), Checks.PLACE);
            }
            if (size > 0) {
                Checks.due("ITEM 0 of " + size, f.set(0, 0, 1), 1);
                Checks.due("the last of " + size, f.set(0, size - 1, 2), 2);
            }
        }
    }

    // ---- promise 4

    /** "A BED is missing from now on: how many ITEMS it had." */
    private static void dropFromNowOn() {
        FurrowField f = new FurrowField();
        f.bed(1, 2, 2);
        for (int n : new int[] {0, 1, 100}) {
            f.bed(0, 2, n);
            Checks.due("drop of " + n, f.drop(0), n);
            Checks.due("drop again", f.drop(0), Checks.NULL);
            Checks.due("set", f.set(0, 0, 1), Checks.NULL);
            Checks.due("copy from", f.copy(0, 0, 1, 0, 0), Checks.NULL);
            Checks.due("copy to", f.copy(1, 0, 0, 0, 0), Checks.NULL);
            Checks.due("plant", f.plant(0, 0, 0), Checks.NULL);
            Checks.due("the other is there", f.count(2), 1);
        }
        f.plant(1, 0, 1);
        f.drop(1);
        Checks.due("the PLANT from it stays", f.is(0, 1), 1);
        Checks.due("no BED", f.count(2), 0);
    }

    private static void dropNumbers() {
        FurrowField f = new FurrowField();
        f.bed(0, 0, 3);
        f.bed(7, 0, 4);
        for (int bed : NO_BED) {
            Checks.due("drop(" + bed + ")", f.drop(bed), BAD);
        }
        Checks.due("both are there", f.count(2), 2);
        Checks.due("drop(0)", f.drop(0), 3);
        Checks.due("drop(7)", f.drop(7), 4);
    }

    private static void dropMissing() {
        FurrowField f = new FurrowField();
        for (int bed = 0; bed < 8; bed++) {
            Checks.due("drop(" + bed + ") of none", f.drop(bed), Checks.NULL);
        }
    }

    // ---- promise 5

    /** "n ITEMS of a from i on come to b from j on, as they were ahead: n." */
    private static void copyAsTheyWereAhead() {
        for (int lane = 0; lane < 3; lane++) {
            for (int to = 0; to <= 3; to++) {
                for (int from = 0; from <= 3; from++) {
                    FurrowField f = new FurrowField();
                    f.bed(0, lane, 6);
                    long[] due = new long[6];
                    for (int i = 0; i < 6; i++) {
                        due[i] = f.set(0, i, 10 * i - 25);
                    }
                    long[] ahead = due.clone();
                    System.arraycopy(ahead, from, due, to, 3);
                    Checks.due("copy in itself", f.copy(0, from, 0, to, 3), 3);
                    dueItems("from " + from + " to " + to, f, 0, due);
                }
            }
        }
        FurrowField full = new FurrowField();
        full.bed(0, 1, 100);
        full.bed(1, 1, 100);
        full.set(0, 0, 11);
        full.set(0, 1, 13);
        full.set(0, 98, 12);
        full.set(0, 99, 14);
        Checks.due("all 100", full.copy(0, 0, 1, 0, 100), 100);
        Checks.due("the first two", full.plant(1, 0, 0), 0);
        Checks.due("x", full.told(0, 0), 11);
        Checks.due("the last two", full.plant(1, 98, 0), 1);
        Checks.due("y", full.told(1, 1), 14);
    }

    /** Reads ITEMS by planting each pair of them, which undo() takes back. */
    private static void dueItems(String when, FurrowField f, int bed, long... items) {
        for (int i = 0; i + 1 < items.length; i++) {
            Checks.due(when + ": plant", f.plant(bed, i, 0), 0);
            Checks.due(when + ": ITEM " + i, f.told(0, 0), items[i]);
            Checks.due(when + ": ITEM " + (i + 1), f.told(0, 1), items[i + 1]);
            f.undo();
        }
    }

    /** A long that is near only by its lowest bits must not come near by a copy. */
    private static void copyAllBits() {
        FurrowField f = new FurrowField();
        f.bed(0, 2, 2);
        f.bed(1, 2, 2);
        f.set(0, 0, (1L << 32) + 1);
        Checks.due("copy", f.copy(0, 0, 1, 0, 2), 2);
        Checks.due("plant of the copy", f.plant(1, 0, 0), BAD);
        f.set(0, 0, Long.MIN_VALUE);
        f.copy(0, 0, 1, 0, 2);
        Checks.due("plant of the copy", f.plant(1, 0, 0), BAD);
        f.set(0, 0, -300);
        f.copy(0, 0, 1, 0, 1);
        Checks.due("plant of the copy", f.plant(1, 0, 0), 0);
    }

    private static void copyNone() {
        FurrowField f = new FurrowField();
        f.bed(0, 1, 4);
        f.bed(1, 1, 0);
        Checks.due("none at the beginnings", f.copy(0, 0, 1, 0, 0), 0);
        Checks.due("none at the ends", f.copy(0, 4, 1, 0, 0), 0);
        Checks.due("none from the empty one", f.copy(1, 0, 0, 4, 0), 0);
        Checks.due("none in itself", f.copy(1, 0, 1, 0, 0), 0);
        Checks.due("none from behind the end", f.copy(0, 5, 1, 0, 0), Checks.PLACE);
        Checks.due("none to behind the end", f.copy(0, 4, 1, 1, 0), Checks.PLACE);
        Checks.due("none from -1", f.copy(0, -1, 1, 0, 0), Checks.PLACE);
        Checks.due("none to -1", f.copy(0, 0, 1, -1, 0), Checks.PLACE);
    }

    private static void copyBedNumbers() {
        FurrowField f = new FurrowField();
        f.bed(0, 0, 1);
        f.bed(7, 0, 1);
        for (int bed : NO_BED) {
            Checks.due("copy from " + bed, f.copy(bed, 0, 0, 0, 1), BAD);
            Checks.due("copy to " + bed, f.copy(0, 0, bed, 0, 1), BAD);
            Checks.due("copy from missing to " + bed, f.copy(4, 0, bed, 0, 1), BAD);
        }
        Checks.due("copy from 0 to 7", f.copy(0, 0, 7, 0, 1), 1);
        Checks.due("copy from 7 to 0", f.copy(7, 0, 0, 0, 1), 1);
    }

    private static void copyMissing() {
        FurrowField f = new FurrowField();
        f.bed(0, 0, 1);
        Checks.due("from missing", f.copy(1, 0, 0, 0, 1), Checks.NULL);
        Checks.due("to missing", f.copy(0, 0, 1, 0, 1), Checks.NULL);
        Checks.due("missing in itself", f.copy(1, 0, 1, 0, 0), Checks.NULL);
        f.bed(1, 1, 1);
        f.drop(1);
        Checks.due("dropped, of another LANE", f.copy(0, 0, 1, 0, 1), Checks.NULL);
    }

    private static void copyTwoLanes() {
        FurrowField f = new FurrowField();
        for (int lane = 0; lane < 3; lane++) {
            f.bed(lane, lane, 2);
            f.bed(lane + 3, lane, 2);
        }
        for (int a = 0; a < 3; a++) {
            for (int b = 0; b < 3; b++) {
                boolean alike = a == b;
                Checks.due("LANES " + a + ", " + b, f.copy(a, 0, b + 3, 0, 2), alike ? 2 : Checks.STORE);
                Checks.due("LANES, none", f.copy(a, 0, b + 3, 0, 0), alike ? 0 : Checks.STORE);
                Checks.due("LANES, no place", f.copy(a, 0, b + 3, 0, 3), alike ? Checks.PLACE : Checks.STORE);
            }
        }
    }

    /** "PLACE (i, j, n below 0, or beyond an end)" */
    private static void copyPlacesAtTheEnds() {
        for (int i = -2; i <= 7; i++) {
            for (int j = -2; j <= 7; j++) {
                FurrowField f = new FurrowField();
                f.bed(0, 1, 5);
                f.bed(1, 1, 3);
                for (int n = -2; n <= 7; n++) {
                    boolean good = i >= 0 && j >= 0 && n >= 0 && i + n <= 5 && j + n <= 3;
                    Checks.due("copy " + i + ", " + j + ", " + n, f.copy(0, i, 1, j, n), good ? n : Checks.PLACE);
                }
            }
        }
    }

    private static void copySumsThatWrap() {
        FurrowField f = new FurrowField();
        f.bed(0, 1, 100);
        f.bed(1, 1, 100);
        int[] ends = {MIN, MIN + 1, MAX - 99, MAX - 1, MAX, 1 << 30};
        for (int end : ends) {
            for (int other : new int[] {0, 1, 100, MAX, MIN}) {
                Checks.due("i " + end + ", n " + other, f.copy(0, end, 1, 0, other), Checks.PLACE);
                Checks.due("j " + end + ", n " + other, f.copy(0, 0, 1, end, other), Checks.PLACE);
                Checks.due("n " + end + ", i " + other, f.copy(0, other, 1, 0, end), Checks.PLACE);
                Checks.due("n " + end + ", j " + other, f.copy(0, 0, 1, other, end), Checks.PLACE);
            }
        }
    }
}
