/** What the tests share: answers that are due, and fields that are soon planted. */
final class Checks {
    static final int NULL = -1000011, PLACE = -1000012, KIND = -1000013, SIZE = -1000014, STORE = -1000015;

    private static int wrong = 0;

    private Checks() {
    }

    static void due(String call, long got, long want) {
        if (got != want) {
            wrong++;
            System.out.println(call + " answered " + got + ", due is " + want);
        }
    }

    static void isTrue(String what, boolean holds) {
        if (!holds) {
            wrong++;
            System.out.println("does not hold: " + what);
        }
    }

    static void end() {
        System.out.println(wrong == 0 ? "all answers are as due" : wrong + " answers are not as due");
        if (wrong != 0) {
            System.exit(1);
        }
    }

    /** Plants one PLANT by way of BED 7, and gives what plant() answered. */
    static int put(FurrowField f, int x, int y, int kind) {
        f.bed(7, 2, 2);
        f.set(7, 0, x);
        f.set(7, 1, y);
        int answer = f.plant(7, 0, kind);
        f.drop(7);
        return answer;
    }

    /** A new field; the numbers are x, y, KIND of one PLANT after the other. */
    static FurrowField field(int... plants) {
        FurrowField f = new FurrowField();
        for (int i = 0; i + 2 < plants.length; i += 3) {
            due("put", put(f, plants[i], plants[i + 1], plants[i + 2]), i / 3);
        }
        return f;
    }

    static void dueLine(String when, FurrowField f, int a, int b, int c) {
        due(when + ": lineAt(0)", f.lineAt(0), a);
        due(when + ": lineAt(1)", f.lineAt(1), b);
        due(when + ": lineAt(2)", f.lineAt(2), c);
    }

    static void dueTrace(String when, FurrowField f, int... numbers) {
        for (int i = 0; i < numbers.length; i++) {
            due(when + ": trace(" + i + ")", f.trace(i), numbers[i]);
        }
        due(when + ": the trace ends", f.trace(numbers.length), FurrowField.NONE);
    }

    static void dueDeepest(String when, FurrowField f, long depth, long... fractions) {
        due(when + ": deepest(0)", f.deepest(0), depth);
        for (int i = 0; i < fractions.length; i++) {
            due(when + ": deepest(" + (i + 1) + ")", f.deepest(i + 1), fractions[i]);
        }
    }
}
