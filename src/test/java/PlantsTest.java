/** Promises 6 to 14 and 28: plant, move, away, colour, told, is, ask, trace, undo, status. */
public final class PlantsTest {
    private static final int BAD = FurrowField.BAD, STATE = FurrowField.STATE, FULL = FurrowField.FULL;

    public static void main(String[] args) {
        plant();
        fullField();
        move();
        away();
        colour();
        told();
        is();
        askAndTrace();
        traceOfRefusals();
        undo();
        undoOfNothingNew();
        status();
        Checks.end();
    }

    private static void plant() {
        FurrowField f = new FurrowField();
        f.bed(0, 2, 4);
        f.set(0, 0, -300);
        f.set(0, 1, 300);
        f.set(0, 2, 301);
        f.set(0, 3, -301);
        Checks.due("at the corner", f.plant(0, 0, 4), 0);
        Checks.due("x", f.told(0, 0), -300);
        Checks.due("y", f.told(0, 1), 300);
        Checks.due("kind", f.told(0, 2), 4);
        Checks.due("y beyond", f.plant(0, 1, 0), BAD);
        Checks.due("both beyond", f.plant(0, 2, 0), BAD);
        Checks.due("the last item alone", f.plant(0, 3, 0), Checks.PLACE);
        Checks.due("beyond the end", f.plant(0, 4, 0), Checks.PLACE);
        Checks.due("at MAX", f.plant(0, Integer.MAX_VALUE, 0), Checks.PLACE);
        Checks.due("at -1", f.plant(0, -1, 0), Checks.PLACE);
        Checks.due("missing", f.plant(1, -1, 0), Checks.NULL);
        Checks.due("missing, no kind", f.plant(1, 0, 5), BAD);
        Checks.due("no kind", f.plant(0, 0, -1), BAD);
        Checks.due("no bed", f.plant(8, 0, 0), BAD);
        Checks.due("no bed below", f.plant(-1, 0, 0), BAD);
        f.set(0, 0, (1L << 32) + 1);
        Checks.due("a long that is near only by its lowest bits", f.plant(0, 0, 0), BAD);
        Checks.due("count(1)", f.count(1), 1);
        f.bed(2, 0, 0);
        Checks.due("an empty bed", f.plant(2, 0, 0), Checks.PLACE);
        f.bed(2, 0, 1);
        Checks.due("a bed of one", f.plant(2, 0, 0), Checks.PLACE);
        f.drop(0);
        Checks.due("the plant stays without its bed", f.told(0, 0), -300);
    }

    private static void fullField() {
        FurrowField f = new FurrowField();
        f.bed(0, 0, 2);
        f.bed(1, 0, 2);
        f.set(1, 0, 301);
        for (int i = 0; i < 40; i++) {
            Checks.due("plant " + i, f.plant(0, 0, i % 5), i);
        }
        Checks.due("the 41st", f.plant(0, 0, 0), FULL);
        Checks.due("the 41st of no kind", f.plant(0, 0, 5), BAD);
        Checks.due("the 41st of a missing bed", f.plant(5, 0, 0), FULL);
        Checks.due("the 41st beyond", f.plant(1, 0, 0), FULL);
        Checks.due("away(3)", f.away(3), 39);
        Checks.due("the 41st after one is away", f.plant(0, 0, 0), FULL);
        f = new FurrowField();
        f.bed(0, 0, 2);
        for (int i = 0; i < 40; i++) {
            f.plant(0, 0, 0);
        }
        Checks.due("undo of the 40th", f.undo(), 1);
        Checks.due("the 40th again", f.plant(0, 0, 3), 39);
        Checks.due("its kind", f.told(39, 2), 3);
    }

    private static void move() {
        FurrowField f = Checks.field(1, 2, 0, 5, 5, 1);
        Checks.due("move(0, -301, 298)", f.move(0, -301, 298), 1);
        Checks.due("x", f.told(0, 0), -300);
        Checks.due("y", f.told(0, 1), 300);
        Checks.due("x beyond", f.move(0, -1, 0), BAD);
        Checks.due("y beyond", f.move(0, 1, 1), BAD);
        Checks.due("x wraps", f.move(0, Integer.MIN_VALUE, 0), BAD);
        Checks.due("y wraps", f.move(0, 0, Integer.MAX_VALUE), BAD);
        Checks.due("x stays", f.told(0, 0), -300);
        Checks.due("y stays", f.told(0, 1), 300);
        Checks.due("no such", f.move(2, 0, 0), BAD);
        Checks.due("no such below", f.move(-1, 0, 0), BAD);
        f.away(0);
        Checks.due("away", f.move(0, 0, 0), Checks.NULL);
        Checks.due("away, and beyond", f.move(0, 1000, 0), Checks.NULL);
        Checks.due("the other stays", f.told(1, 0), 5);
    }

    private static void away() {
        FurrowField f = Checks.field(0, 0, 0, 1, 1, 1, 2, 2, 2);
        Checks.due("away(1)", f.away(1), 2);
        Checks.due("away(1) again", f.away(1), Checks.NULL);
        Checks.due("away(3)", f.away(3), BAD);
        Checks.due("away(-1)", f.away(-1), BAD);
        Checks.due("away(0)", f.away(0), 1);
        Checks.due("away(2)", f.away(2), 0);
        Checks.due("count(0)", f.count(0), 0);
        Checks.due("count(1)", f.count(1), 3);
        Checks.due("the next number", Checks.put(f, 0, 0, 0), 3);
    }

    private static void colour() {
        FurrowField f = Checks.field(0, 0, 4, 1, 1, 1);
        Checks.due("colour(0, 2)", f.colour(0, 2), 0);
        Checks.due("colour(0, 1)", f.colour(0, 1), 2);
        Checks.due("colour(0, 0)", f.colour(0, 0), 1);
        Checks.due("colour(0, 3)", f.colour(0, 3), BAD);
        Checks.due("colour(0, -1)", f.colour(0, -1), BAD);
        Checks.due("colour(2, 0)", f.colour(2, 0), BAD);
        Checks.due("colour(-1, 0)", f.colour(-1, 0), BAD);
        Checks.due("colour of a red", f.colour(1, 1), Checks.KIND);
        Checks.due("no colour of a red", f.colour(1, 3), BAD);
        f.away(1);
        Checks.due("colour of a red away", f.colour(1, 1), Checks.NULL);
        for (int kind = 0; kind < 4; kind++) {
            Checks.due("colour of kind " + kind, Checks.field(0, 0, kind).colour(0, 0), Checks.KIND);
        }
    }

    private static void told() {
        FurrowField f = Checks.field(-4, 9, 3, 0, 0, 1);
        Checks.due("told(0, 0)", f.told(0, 0), -4);
        Checks.due("told(0, 1)", f.told(0, 1), 9);
        Checks.due("told(0, 2)", f.told(0, 2), 3);
        Checks.due("told(0, 3)", f.told(0, 3), 1);
        Checks.due("told(0, 4)", f.told(0, 4), BAD);
        Checks.due("told(0, -1)", f.told(0, -1), BAD);
        Checks.due("told(2, 0)", f.told(2, 0), BAD);
        Checks.due("told(-1, 0)", f.told(-1, 0), BAD);
        f.away(0);
        Checks.due("told of one away", f.told(0, 3), Checks.NULL);
        Checks.due("told of one away, no such what", f.told(0, 4), BAD);
        Checks.due("told(1, 3) behind one away", f.told(1, 3), 1);
    }

    private static void is() {
        int[][] due = {
            {1, 0, 0, 0, 0}, {1, 1, 0, 0, 0}, {1, 0, 1, 0, 0}, {1, 1, 0, 1, 0}, {1, 0, 0, 0, 1}};
        FurrowField f = Checks.field(0, 0, 0, 0, 0, 1, 0, 0, 2, 0, 0, 3, 0, 0, 4);
        for (int p = 0; p < 5; p++) {
            for (int kind = 0; kind < 5; kind++) {
                Checks.due("is(" + p + ", " + kind + ")", f.is(p, kind), due[p][kind]);
            }
        }
        Checks.due("is(0, 5)", f.is(0, 5), BAD);
        Checks.due("is(0, -1)", f.is(0, -1), BAD);
        Checks.due("is(5, 0)", f.is(5, 0), BAD);
        Checks.due("is(-1, 0)", f.is(-1, 0), BAD);
        f.away(2);
        Checks.due("is of one away", f.is(2, 2), Checks.NULL);
        Checks.due("is of one away, no kind", f.is(2, 5), BAD);
    }

    private static void askAndTrace() {
        FurrowField f = Checks.field(0, 0, 0, 0, 0, 1, 0, 0, 2, 0, 0, 3, 0, 0, 4);
        dueAsk(f, 0, 0, 0, 10);
        dueAsk(f, 0, 1, 0, 20);
        dueAsk(f, 0, 2, 1, 30, 10, 20);
        dueAsk(f, 0, 3, 10, 40, 30, 10, 20);
        dueAsk(f, 1, 0, 1, 11);
        dueAsk(f, 1, 1, 0, 20);
        dueAsk(f, 1, 2, 1, 30, 11, 20);
        dueAsk(f, 1, 3, 10, 40, 30, 11, 20);
        dueAsk(f, 2, 0, 0, 10);
        dueAsk(f, 2, 1, 1, 21);
        dueAsk(f, 2, 2, 1, 30, 10, 21);
        dueAsk(f, 2, 3, 5, 41, 40, 30, 10, 21);
        dueAsk(f, 3, 0, 2, 12, 11);
        dueAsk(f, 3, 1, 0, 20);
        dueAsk(f, 3, 2, 3, 31, 30, 12, 11, 20);
        dueAsk(f, 3, 3, 30, 40, 31, 30, 12, 11, 20);
        dueAsk(f, 4, 0, 0, 13, 10);
        dueAsk(f, 4, 1, 0, 22, 20);
        dueAsk(f, 4, 2, 1, 30, 13, 10, 22, 20);
        dueAsk(f, 4, 3, 1, 42, 30, 13, 10, 22, 20);
        f.colour(4, 1);
        dueAsk(f, 4, 0, 1, 13);
        dueAsk(f, 4, 1, 0, 22, 20);
        dueAsk(f, 4, 2, 1, 30, 13, 22, 20);
        dueAsk(f, 4, 3, 1, 42, 30, 13, 22, 20);
        f.colour(4, 2);
        dueAsk(f, 4, 0, 0, 13, 10);
        dueAsk(f, 4, 1, 1, 22);
        dueAsk(f, 4, 2, 1, 30, 13, 10, 22);
        dueAsk(f, 4, 3, 1, 42, 30, 13, 10, 22);
    }

    private static void dueAsk(FurrowField f, int plant, int what, int answer, int... trace) {
        String call = "ask(" + plant + ", " + what + ")";
        Checks.due(call, f.ask(plant, what), answer);
        Checks.dueTrace(call, f, trace);
    }

    private static void traceOfRefusals() {
        FurrowField f = Checks.field(0, 0, 3, 1, 0, 4);
        f.ask(0, 0);
        Checks.due("trace(-1)", f.trace(-1), FurrowField.NONE);
        Checks.due("trace(16)", f.trace(16), FurrowField.NONE);
        Checks.due("trace(MAX)", f.trace(Integer.MAX_VALUE), FurrowField.NONE);
        Checks.due("ask(0, 4)", f.ask(0, 4), BAD);
        Checks.due("ask(0, -1)", f.ask(0, -1), BAD);
        Checks.due("ask(2, 0)", f.ask(2, 0), BAD);
        Checks.due("ask(-1, 0)", f.ask(-1, 0), BAD);
        f.colour(1, 1);
        f.count(6);
        f.furrows();
        Checks.put(f, 5, 5, 2);
        f.side(0, 0);
        Checks.dueTrace("other calls leave nothing", f, 12, 11);
        f.away(1);
        f.undo();
        Checks.dueTrace("nor away and undo", f, 12, 11);
        f.away(1);
        Checks.due("ask of one away, no such ask", f.ask(1, 4), BAD);
        Checks.dueTrace("which leaves it be", f, 12, 11);
        Checks.due("ask of one away", f.ask(1, 0), Checks.NULL);
        Checks.dueTrace("which empties it", f);
    }

    private static void undo() {
        FurrowField f = Checks.field(3, 4, 4, 7, 7, 1);
        Checks.due("undo of plant", f.undo(), 1);
        Checks.due("count(0)", f.count(0), 1);
        Checks.due("count(1)", f.count(1), 1);
        Checks.due("no such plant now", f.told(1, 0), BAD);
        Checks.due("undo twice", f.undo(), STATE);
        f.move(0, 10, 20);
        f.move(0, 1, 1);
        Checks.due("undo of move", f.undo(), 1);
        Checks.due("x", f.told(0, 0), 13);
        Checks.due("y", f.told(0, 1), 24);
        Checks.due("only the latest", f.undo(), STATE);
        f.colour(0, 1);
        f.colour(0, 2);
        Checks.due("undo of colour", f.undo(), 1);
        Checks.due("red again", f.count(4), 1);
        Checks.due("not blue", f.count(5), 0);
        Checks.due("what it was", f.colour(0, 0), 1);
        f.away(0);
        Checks.due("undo of away", f.undo(), 1);
        Checks.due("there again", f.told(0, 0), 13);
        Checks.due("count(0) again", f.count(0), 1);

        f.move(0, 1, 0);
        f.move(0, 1000, 0);
        f.away(9);
        f.colour(0, 7);
        f.plant(0, 0, 0);
        f.line(1, 2, 3);
        f.bed(0, 0, 2);
        f.ask(0, 3);
        Checks.due("undo behind refusals and other calls", f.undo(), 1);
        Checks.due("x", f.told(0, 0), 13);
        Checks.dueLine("the line stays", f, 1, 2, 3);
        Checks.due("the bed stays", f.drop(0), 2);

        Checks.put(f, 9, 9, 4);
        f.colour(1, 2);
        f.undo();
        Checks.put(f, 1, 1, 4);
        f.undo();
        Checks.due("the number is free again", Checks.put(f, 8, 6, 4), 2);
        Checks.due("at its own place", f.told(2, 0), 8);
        Checks.due("of no colour at first", f.colour(2, 1), 0);
    }

    /** A change that is answered but leaves all as it was is a change all the same. */
    private static void undoOfNothingNew() {
        FurrowField f = Checks.field(3, 4, 4);
        f.move(0, 5, 5);
        f.move(0, 0, 0);
        Checks.due("undo of move(0, 0, 0)", f.undo(), 1);
        Checks.due("x", f.told(0, 0), 8);
        Checks.due("no more", f.undo(), STATE);
        f.colour(0, 1);
        f.colour(0, 1);
        Checks.due("undo of the same colour", f.undo(), 1);
        Checks.due("still red", f.count(4), 1);
    }

    private static void status() {
        FurrowField f = Checks.field(0, 0, 0, 1, 1, 4, 1, 1, 0);
        Checks.due("at first", f.status(), 0);
        f.bed(0, 0, -1);
        Checks.due("SIZE", f.status(), 4);
        f.bed(0, 0, 101);
        f.undo();
        f.count(0);
        f.depth(0, 0, 1);
        f.line(1, 0, 0);
        f.line(0, 0, 0);
        f.furrow(0);
        f.trace(0);
        Checks.due("still SIZE", f.status(), 4);
        dueCleared("bed", f, f.bed(0, 0, 4), 4);
        f.set(0, 9, 1);
        Checks.due("PLACE", f.status(), 2);
        dueCleared("set", f, f.set(0, 0, 1), 1);
        f.drop(5);
        Checks.due("NULL by drop", f.status(), 1);
        f.bed(1, 1, 3);
        f.copy(0, 0, 1, 0, 1);
        Checks.due("STORE", f.status(), 5);
        f.copy(0, 0, 9, 0, 1);
        Checks.due("STORE behind BAD", f.status(), 5);
        dueCleared("drop", f, f.drop(1), 3);
        f.copy(0, 0, 1, 0, 1);
        Checks.due("NULL by copy", f.status(), 1);
        dueCleared("copy", f, f.copy(0, 0, 0, 1, 1), 1);
        f.colour(0, 1);
        Checks.due("KIND", f.status(), 3);
        dueCleared("colour", f, f.colour(1, 1), 0);
        f.colour(0, 1);
        dueCleared("plant", f, f.plant(0, 0, 0), 2);
        f.plant(0, 3, 0);
        Checks.due("PLACE by plant", f.status(), 2);
        dueCleared("away", f, f.away(2), 2);
        f.told(2, 0);
        Checks.due("NULL by told", f.status(), 1);
        dueCleared("told", f, f.told(0, 0), 0);
        f.is(2, 0);
        Checks.due("NULL by is", f.status(), 1);
        dueCleared("is", f, f.is(0, 0), 1);
        f.ask(2, 0);
        Checks.due("NULL by ask", f.status(), 1);
        dueCleared("ask", f, f.ask(0, 0), 0);
        f.move(2, 0, 0);
        Checks.due("NULL by move", f.status(), 1);
        f.move(0, 999, 0);
        Checks.due("NULL behind BAD", f.status(), 1);
        dueCleared("move", f, f.move(0, 1, 0), 1);
        f.through(0, 2);
        Checks.due("NULL by through", f.status(), 1);
        Checks.due("through itself", f.through(0, 0), STATE);
        Checks.due("NULL behind STATE", f.status(), 1);
        dueCleared("through", f, f.through(0, 1), 1);
        f.away(2);
        Checks.due("NULL by away", f.status(), 1);
        f.undo();
        Checks.due("NULL behind undo", f.status(), 1);
        f.set(4, 0, 0);
        Checks.due("NULL by set", f.status(), 1);
    }

    private static void dueCleared(String call, FurrowField f, long got, long want) {
        Checks.due(call, got, want);
        Checks.due("status() behind " + call, f.status(), 0);
    }
}
