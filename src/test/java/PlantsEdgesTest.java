/** Promises 6 to 14, sentence by sentence: the last good number and the first that is not, on both sides. */
public final class PlantsEdgesTest {
    private static final int NONE = FurrowField.NONE, BAD = FurrowField.BAD, STATE = FurrowField.STATE;
    private static final int FULL = FurrowField.FULL, MIN = Integer.MIN_VALUE, MAX = Integer.MAX_VALUE;

    public static void main(String[] args) {
        plantOfTwoItems();
        plantBedNumbers();
        plantFull();
        plantMissing();
        plantPlaces();
        plantBeyond();
        plantBeyondByItsUpperBits();
        moveToTheEnds();
        moveNoSuchPlant();
        moveAway();
        moveBeyond();
        awayOneByOne();
        awayNumbers();
        colourWhatItWas();
        colourNumbers();
        colourOfOthers();
        toldNumbers();
        toldAway();
        isOfAKind();
        isNumbers();
        askNumbers();
        askEmptiesTheTrace();
        traceNumbers();
        undoEach();
        undoNone();
        undoOnlyTheLatest();
        undoFreesTheNumber();
        undoLeavesTheRest();
        Checks.end();
    }

    // ---- promise 6

    /** "A PLANT of a KIND at x, y: ITEMS i and the next one of a BED: its number." */
    private static void plantOfTwoItems() {
        for (int lane = 0; lane < 3; lane++) {
            FurrowField f = new FurrowField();
            f.bed(0, lane, 100);
            f.set(0, 0, -300);
            f.set(0, 1, 299);
            f.set(0, 98, 300);
            f.set(0, 99, -299);
            Checks.due("the first two", f.plant(0, 0, 1), 0);
            Checks.due("the last two", f.plant(0, 98, 2), 1);
            duePlant("the first two", f, 0, -300, 299, 1);
            duePlant("the last two", f, 1, 300, -299, 2);
            f.set(0, 0, 5);
            duePlant("the PLANT stands when its ITEM changes", f, 0, -300, 299, 1);
        }
    }

    private static void duePlant(String when, FurrowField f, int plant, int x, int y, int kind) {
        Checks.due(when + ": x", f.told(plant, 0), x);
        Checks.due(when + ": y", f.told(plant, 1), y);
        Checks.due(when + ": KIND", f.told(plant, 2), kind);
    }

    /** "BAD: BED, KIND" */
    private static void plantBedNumbers() {
        FurrowField f = new FurrowField();
        f.bed(0, 0, 2);
        f.bed(7, 0, 2);
        for (int bed : new int[] {-1, 8, MIN, MAX}) {
            Checks.due("BED " + bed, f.plant(bed, 0, 0), BAD);
        }
        for (int kind : new int[] {-1, 5, MIN, MAX}) {
            Checks.due("KIND " + kind, f.plant(0, 0, kind), BAD);
        }
        Checks.due("none is given", f.count(1), 0);
        Checks.due("BED 0, KIND 0", f.plant(0, 0, 0), 0);
        Checks.due("BED 7, KIND 4", f.plant(7, 0, 4), 1);
    }

    /** "FULL: 40" */
    private static void plantFull() {
        FurrowField f = new FurrowField();
        f.bed(0, 0, 2);
        for (int p = 0; p < 40; p++) {
            Checks.due("plant " + p, f.plant(0, 0, 0), p);
        }
        Checks.due("the 41st", f.plant(0, 0, 0), FULL);
        Checks.due("40 are given", f.count(1), 40);
        Checks.due("undo of the 40th, not of the refused one", f.undo(), 1);
        Checks.due("39 are given", f.count(1), 39);
        Checks.due("the 40th again", f.plant(0, 0, 2), 39);
        Checks.due("the 41st again", f.plant(0, 0, 0), FULL);
    }

    private static void plantMissing() {
        FurrowField f = new FurrowField();
        Checks.due("no BED at all", f.plant(0, 0, 0), Checks.NULL);
        f.bed(0, 0, 2);
        f.drop(0);
        Checks.due("dropped", f.plant(0, 0, 0), Checks.NULL);
        Checks.due("dropped, no such place", f.plant(0, 5, 0), Checks.NULL);
        Checks.due("none is given", f.count(1), 0);
    }

    /** "PLACE": ITEM i, or the next one. */
    private static void plantPlaces() {
        for (int size : new int[] {0, 1, 2, 3, 100}) {
            FurrowField f = new FurrowField();
            f.bed(0, 0, size);
            for (int i : new int[] {-2, -1, size - 1, size, size + 1, MIN, MAX - 1, MAX}) {
                Checks.due("ITEM " + i + " of " + size, f.plant(0, i, 0), Checks.PLACE);
            }
            Checks.due("none is given", f.count(1), 0);
            if (size >= 2) {
                Checks.due("the last two of " + size, f.plant(0, size - 2, 0), 0);
            }
        }
    }

    /** "then BAD: x, y are not -300 to 300" */
    private static void plantBeyond() {
        for (int lane = 0; lane < 3; lane++) {
            FurrowField f = new FurrowField();
            f.bed(0, lane, 3);
            f.bed(1, lane, -1);
            for (int end : new int[] {-301, 301, -32768, 32767}) {
                f.set(0, 0, 0);
                f.set(0, 1, end);
                f.set(0, 2, 0);
                f.bed(1, lane, -1);
                Checks.due("y " + end, f.plant(0, 0, 0), BAD);
                Checks.due("x " + end, f.plant(0, 1, 0), BAD);
                Checks.due("such a BAD leaves status()", f.status(), 4);
            }
            Checks.due("none is given", f.count(1), 0);
            Checks.due("nothing to undo", f.undo(), STATE);
            f.set(0, 1, -300);
            Checks.due("y -300", f.plant(0, 0, 0), 0);
            Checks.due("x -300", f.plant(0, 1, 0), 1);
            f.set(0, 1, 300);
            Checks.due("y 300", f.plant(0, 0, 0), 2);
            Checks.due("x 300", f.plant(0, 1, 0), 3);
        }
    }

    private static void plantBeyondByItsUpperBits() {
        FurrowField f = new FurrowField();
        f.bed(0, 2, 3);
        f.bed(1, 1, 3);
        long[] far = {1L << 32, (1L << 32) + 300, -(1L << 32), 1L << 63, (1L << 63) + 5, Long.MAX_VALUE,
            1L << 16, -(1L << 16), MIN, MAX, 4294967295L};
        for (long v : far) {
            f.set(0, 1, v);
            Checks.due("y " + v, f.plant(0, 0, 0), BAD);
            Checks.due("x " + v, f.plant(0, 1, 0), BAD);
        }
        for (long v : new long[] {65536, -65536, 65836, MIN, MAX}) {
            f.set(1, 1, v);
            Checks.due("int y " + v, f.plant(1, 0, 0), BAD);
            Checks.due("int x " + v, f.plant(1, 1, 0), BAD);
        }
        Checks.due("none is given", f.count(1), 0);
    }

    // ---- promise 7

    /** "A PLANT stands dx, dy further: 1." */
    private static void moveToTheEnds() {
        FurrowField f = Checks.field(-300, 300, 3);
        Checks.due("600 on, 600 back", f.move(0, 600, -600), 1);
        duePlant("there", f, 0, 300, -300, 3);
        Checks.due("0 in the corner", f.move(0, 0, 0), 1);
        duePlant("there", f, 0, 300, -300, 3);
        Checks.due("back", f.move(0, -600, 600), 1);
        duePlant("there", f, 0, -300, 300, 3);
        Checks.due("a little", f.move(0, 1, -2), 1);
        duePlant("there", f, 0, -299, 298, 3);
    }

    private static void moveNoSuchPlant() {
        FurrowField f = new FurrowField();
        Checks.due("none is given", f.move(0, 0, 0), BAD);
        Checks.put(f, 0, 0, 0);
        Checks.due("PLANT 0", f.move(0, 0, 0), 1);
        for (int p : new int[] {-1, 1, 40, MIN, MAX}) {
            Checks.due("PLANT " + p, f.move(p, 0, 0), BAD);
        }
    }

    private static void moveAway() {
        FurrowField f = Checks.field(4, 5, 1);
        f.away(0);
        Checks.due("away", f.move(0, 1, 1), Checks.NULL);
        Checks.due("away, beyond", f.move(0, 400, 1), Checks.NULL);
        Checks.due("undo of away", f.undo(), 1);
        duePlant("where it was", f, 0, 4, 5, 1);
    }

    /** "then BAD: it would stand beyond" */
    private static void moveBeyond() {
        int[][] corners = {{300, 300}, {300, -300}, {-300, 300}, {-300, -300}, {0, 0}, {1, -1}};
        for (int[] at : corners) {
            FurrowField f = Checks.field(at[0], at[1], 2);
            f.drop(0);
            int[] too = {301 - at[0], -301 - at[0], MAX, MIN, MAX - 299, MIN + 299, MAX - 300, MIN + 300};
            for (int dx : too) {
                Checks.due("dx " + dx, f.move(0, dx, 0), BAD);
            }
            int[] tooHigh = {301 - at[1], -301 - at[1], MAX, MIN, MAX - 299, MIN + 299, MAX - 300, MIN + 300};
            for (int dy : tooHigh) {
                Checks.due("dy " + dy, f.move(0, 0, dy), BAD);
            }
            Checks.due("one of both is beyond", f.move(0, 300 - at[0], 301 - at[1]), BAD);
            Checks.due("such a BAD leaves status()", f.status(), 1);
            duePlant("it stays", f, 0, at[0], at[1], 2);
            Checks.due("to the last good place", f.move(0, 300 - at[0], 300 - at[1]), 1);
            duePlant("there", f, 0, 300, 300, 2);
            Checks.due("to the other end", f.move(0, -600, -600), 1);
            duePlant("there", f, 0, -300, -300, 2);
        }
    }

    // ---- promise 8

    /** "A PLANT is AWAY from now on: how many are there." */
    private static void awayOneByOne() {
        FurrowField f = new FurrowField();
        f.bed(0, 0, 2);
        for (int p = 0; p < 40; p++) {
            f.plant(0, 0, p % 5);
        }
        for (int p = 39; p >= 0; p--) {
            Checks.due("away(" + p + ")", f.away(p), p);
            Checks.due("away(" + p + ") again", f.away(p), Checks.NULL);
            Checks.due("count(0)", f.count(0), p);
        }
        Checks.due("sum of ALL", f.count(6), 0);
        FurrowField one = Checks.field(1, 1, 1);
        Checks.due("the only one", one.away(0), 0);
        Checks.due("its number is not free", Checks.put(one, 1, 1, 1), 1);
    }

    private static void awayNumbers() {
        FurrowField f = new FurrowField();
        Checks.due("none is given", f.away(0), BAD);
        Checks.put(f, 0, 0, 0);
        for (int p : new int[] {-1, 1, 40, MIN, MAX}) {
            Checks.due("away(" + p + ")", f.away(p), BAD);
        }
        Checks.due("it is there", f.count(0), 1);
    }

    // ---- promise 9

    /** "The COLOUR (0 .. 2) of a DOUBTFUL PLANT: what it was." */
    private static void colourWhatItWas() {
        FurrowField f = Checks.field(0, 0, 4);
        int was = 0;
        for (int next : new int[] {0, 1, 1, 2, 2, 0, 2, 1, 0}) {
            Checks.due("from " + was + " to " + next, f.colour(0, next), was);
            Checks.due("RED", f.ask(0, 0), next == 1 ? 1 : 0);
            Checks.due("BLUE", f.ask(0, 1), next == 2 ? 1 : 0);
            was = next;
        }
    }

    private static void colourNumbers() {
        FurrowField f = new FurrowField();
        Checks.due("none is given", f.colour(0, 0), BAD);
        Checks.put(f, 0, 0, 4);
        f.colour(0, 1);
        for (int p : new int[] {-1, 1, 40, MIN, MAX}) {
            Checks.due("PLANT " + p, f.colour(p, 0), BAD);
        }
        for (int colour : new int[] {-1, 3, MIN, MAX}) {
            Checks.due("COLOUR " + colour, f.colour(0, colour), BAD);
        }
        Checks.due("it is what it was", f.colour(0, 2), 1);
    }

    /** "NULL; KIND" */
    private static void colourOfOthers() {
        for (int kind = 0; kind < 4; kind++) {
            FurrowField f = Checks.field(0, 0, kind);
            int red = f.ask(0, 0);
            Checks.due("KIND " + kind, f.colour(0, 2), Checks.KIND);
            Checks.due("RED stays", f.ask(0, 0), red);
            Checks.due("BLUE stays", f.ask(0, 1), kind == 2 ? 1 : 0);
            f.away(0);
            Checks.due("KIND " + kind + ", away", f.colour(0, 2), Checks.NULL);
        }
        FurrowField f = Checks.field(0, 0, 4);
        f.away(0);
        Checks.due("DOUBTFUL, away", f.colour(0, 2), Checks.NULL);
        f.undo();
        Checks.due("it has no COLOUR still", f.colour(0, 0), 0);
    }

    // ---- promises 10 to 13

    private static void toldNumbers() {
        FurrowField f = new FurrowField();
        Checks.due("none is given", f.told(0, 0), BAD);
        Checks.put(f, -300, 300, 4);
        Checks.put(f, 300, -300, 0);
        for (int p : new int[] {-1, 2, 40, MIN, MAX}) {
            Checks.due("PLANT " + p, f.told(p, 0), BAD);
        }
        for (int what : new int[] {-1, 4, MIN, MAX}) {
            Checks.due("what " + what, f.told(0, what), BAD);
        }
        duePlant("the first", f, 0, -300, 300, 4);
        duePlant("the last", f, 1, 300, -300, 0);
        Checks.due("LAYER", f.told(1, 3), 1);
    }

    private static void toldAway() {
        FurrowField f = Checks.field(1, 2, 3);
        f.away(0);
        for (int what = 0; what < 4; what++) {
            Checks.due("told(0, " + what + ")", f.told(0, what), Checks.NULL);
        }
        Checks.due("told(0, 4)", f.told(0, 4), BAD);
    }

    /** "Whether a PLANT is of a KIND: 1, 0." */
    private static void isOfAKind() {
        String[] is = {"10000", "11000", "10100", "11010", "10001"};
        for (int kind = 0; kind < 5; kind++) {
            FurrowField f = Checks.field(0, 0, kind);
            for (int wanted = 0; wanted < 5; wanted++) {
                Checks.due("KIND " + kind + " is " + wanted, f.is(0, wanted), is[kind].charAt(wanted) - '0');
            }
        }
        FurrowField red = Checks.field(0, 0, 4);
        red.colour(0, 1);
        Checks.due("a red DOUBTFUL is no RED", red.is(0, 1), 0);
        Checks.due("a red DOUBTFUL is a DOUBTFUL", red.is(0, 4), 1);
    }

    private static void isNumbers() {
        FurrowField f = new FurrowField();
        Checks.due("none is given", f.is(0, 0), BAD);
        Checks.put(f, 0, 0, 0);
        for (int p : new int[] {-1, 1, 40, MIN, MAX}) {
            Checks.due("PLANT " + p, f.is(p, 0), BAD);
        }
        for (int kind : new int[] {-1, 5, MIN, MAX}) {
            Checks.due("KIND " + kind, f.is(0, kind), BAD);
        }
        f.away(0);
        Checks.due("away", f.is(0, 4), Checks.NULL);
        Checks.due("away, no KIND", f.is(0, 5), BAD);
    }

    private static void askNumbers() {
        FurrowField f = new FurrowField();
        Checks.due("none is given", f.ask(0, 0), BAD);
        Checks.put(f, 0, 0, 3);
        for (int p : new int[] {-1, 1, 40, MIN, MAX}) {
            Checks.due("PLANT " + p, f.ask(p, 0), BAD);
        }
        for (int what : new int[] {-1, 4, MIN, MAX}) {
            Checks.due("ASK " + what, f.ask(0, what), BAD);
        }
        Checks.dueTrace("BAD alone", f);
        Checks.due("ASK 0", f.ask(0, 0), 2);
        Checks.due("ASK 3", f.ask(0, 3), 30);
    }

    /** "THE TRACE is empty ahead of it, if it is not BAD." */
    private static void askEmptiesTheTrace() {
        FurrowField f = Checks.field(0, 0, 3, 0, 0, 0);
        f.ask(0, 3);
        f.ask(0, 4);
        f.ask(2, 3);
        Checks.dueTrace("behind BAD", f, 40, 31, 30, 12, 11, 20);
        f.ask(1, 0);
        Checks.dueTrace("anew", f, 10);
        f.away(0);
        Checks.due("away", f.ask(0, 3), Checks.NULL);
        Checks.dueTrace("emptied, though found", f);
        f.undo();
        Checks.dueTrace("undo() does not bring it back", f);
        f.ask(1, 0);
        f.ask(1, 0);
        Checks.dueTrace("the latest alone", f, 10);
    }

    /** "Number i of THE TRACE; NONE." */
    private static void traceNumbers() {
        FurrowField f = Checks.field(0, 0, 3);
        int[] none = {MIN, -1, 6, 7, 15, 16, 17, MAX};
        for (int i = 0; i < 17; i++) {
            Checks.due("no ask() yet: " + i, f.trace(i), NONE);
        }
        f.ask(0, 3);
        Checks.due("the first", f.trace(0), 40);
        Checks.due("the last", f.trace(5), 20);
        for (int i : none) {
            Checks.due("trace(" + i + ")", f.trace(i), NONE);
        }
    }

    // ---- promise 14

    /** "The latest plant(), move(), away(), colour() that did something is undone: 1." */
    private static void undoEach() {
        FurrowField f = Checks.field(3, 4, 4);
        Checks.due("undo of plant", f.undo(), 1);
        Checks.due("none there", f.count(0), 0);
        Checks.due("none given", f.count(1), 0);
        Checks.put(f, 3, 4, 4);
        f.move(0, 297, -304);
        Checks.due("undo of move", f.undo(), 1);
        duePlant("back", f, 0, 3, 4, 4);
        f.colour(0, 2);
        Checks.due("undo of colour", f.undo(), 1);
        Checks.due("no BLUE", f.count(5), 0);
        Checks.due("what it was", f.colour(0, 1), 0);
        f.away(0);
        Checks.due("undo of away", f.undo(), 1);
        Checks.due("there", f.count(0), 1);
        Checks.due("with its COLOUR", f.ask(0, 0), 1);
    }

    /** "STATE: there was none, or it is undone." */
    private static void undoNone() {
        FurrowField f = new FurrowField();
        Checks.due("a new object", f.undo(), STATE);
        f.bed(0, 0, 2);
        f.line(1, 1, 1);
        f.plant(0, 1, 0);
        f.plant(0, 0, 5);
        f.away(0);
        Checks.due("refused calls and others alone", f.undo(), STATE);
        f.plant(0, 0, 0);
        Checks.due("one", f.undo(), 1);
        Checks.due("it is undone", f.undo(), STATE);
        Checks.due("still", f.undo(), STATE);
        f.plant(0, 0, 0);
        f.undo();
        f.move(0, 1, 1);
        f.plant(0, 1, 0);
        Checks.due("refused calls behind it do not bring it back", f.undo(), STATE);
    }

    private static void undoOnlyTheLatest() {
        FurrowField f = Checks.field(0, 0, 4, 5, 5, 4);
        f.move(0, 1, 0);
        f.move(1, 0, 1);
        Checks.due("undo", f.undo(), 1);
        duePlant("the latest", f, 1, 5, 5, 4);
        duePlant("not the one ahead", f, 0, 1, 0, 4);
        Checks.due("not two", f.undo(), STATE);
        f.away(0);
        f.away(0);
        f.colour(0, 1);
        f.move(0, 1, 1);
        f.plant(0, 0, 0);
        Checks.due("what was found did nothing", f.undo(), 1);
        Checks.due("the away() ahead of it is undone", f.count(0), 2);
    }

    /** "(the number of a PLANT that was planted is free again)" */
    private static void undoFreesTheNumber() {
        FurrowField f = Checks.field(0, 0, 4, 5, 5, 4);
        f.undo();
        Checks.due("told", f.told(1, 0), BAD);
        Checks.due("move", f.move(1, 0, 0), BAD);
        Checks.due("away", f.away(1), BAD);
        Checks.due("colour", f.colour(1, 0), BAD);
        Checks.due("is", f.is(1, 0), BAD);
        Checks.due("ask", f.ask(1, 0), BAD);
        Checks.due("through", f.through(0, 1), BAD);
        Checks.due("the next has it", Checks.put(f, 7, 8, 2), 1);
        duePlant("the next", f, 1, 7, 8, 2);
        for (int again = 0; again < 50; again++) {
            f.undo();
            Checks.due("again", Checks.put(f, 7, 8, 2), 1);
        }
        Checks.due("two are given", f.count(1), 2);
    }

    private static void undoLeavesTheRest() {
        FurrowField f = Checks.field(0, 0, 4, 5, 1, 4);
        f.bed(0, 0, 3);
        f.ask(0, 0);
        f.away(1);
        f.line(4, 6, 8);
        f.bed(1, 1, -1);
        Checks.due("undo", f.undo(), 1);
        Checks.due("status()", f.status(), 4);
        Checks.dueTrace("behind undo", f, 13, 10);
        Checks.dueLine("behind undo", f, 2, 3, 4);
        Checks.due("the BED", f.drop(0), 3);
    }
}
