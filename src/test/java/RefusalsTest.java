import java.util.HashMap;
import java.util.Map;
import java.util.function.Consumer;
import java.util.function.Function;
import java.util.function.ToLongFunction;

/**
 * "What is refused, or found, changes nothing but status() (and THE TRACE, by ask())": each call
 * that can be refused, at the first numbers that are not good, in fields of all sorts. Behind it
 * the field is held against a twin on which the call was never made.
 */
public final class RefusalsTest {
    private static final int NONE = FurrowField.NONE, BAD = FurrowField.BAD, STATE = FurrowField.STATE;
    private static final int FULL = FurrowField.FULL, MIN = Integer.MIN_VALUE, MAX = Integer.MAX_VALUE;

    private final String name;
    private final Consumer<FurrowField> making;
    private final int statusAhead;
    private final Map<Integer, String> twins = new HashMap<>();
    private final int given;

    private RefusalsTest(String name, Consumer<FurrowField> making, int statusAhead) {
        this.name = name;
        this.making = making;
        this.statusAhead = statusAhead;
        this.given = made().count(1);
    }

    public static void main(String[] args) {
        // In each scene BED 6 is missing and BED 5 is empty, so that both findings can be made.
        for (int status = 0; status <= 4; status += 2) {
            RefusalsTest none = new RefusalsTest("none", RefusalsTest::noPlant, status);
            none.inAnyField();
            none.withoutPlants();
            none.withRoom();
            RefusalsTest some = new RefusalsTest("some", RefusalsTest::somePlants, status);
            some.inAnyField();
            some.withPlantsOfAllSorts();
            some.withRoom();
            RefusalsTest away = new RefusalsTest("all away", RefusalsTest::allAway, status);
            away.inAnyField();
            away.withoutPlants();
            away.withRoom();
            RefusalsTest full = new RefusalsTest("full", RefusalsTest::fullField, status);
            full.inAnyField();
            full.withoutRoom();
        }
        Checks.end();
    }

    // ---- the fields

    private static void beds(FurrowField f) {
        for (int lane = 0; lane < 3; lane++) {
            f.bed(lane, lane, 4);
            f.set(lane, 0, 301);
            f.set(lane, 1, 7);
            f.set(lane, 2, -301);
            f.set(lane, 3, -9);
        }
        f.bed(5, 1, 0);
    }

    private static void noPlant(FurrowField f) {
        beds(f);
        f.line(3, -2, 5);
    }

    /** Five KINDS; PLANT 1 is AWAY, 5 and 6 stand at one place, 2 in a corner; colour() came last. */
    private static void somePlants(FurrowField f) {
        beds(f);
        int[] at = {0, 0, 40, -3, 300, -300, 7, 90, -50, 12, 8, 8, 8, 8};
        for (int p = 0; p < 7; p++) {
            Checks.put(f, at[2 * p], at[2 * p + 1], p % 5);
        }
        f.line(3, -2, 5);
        f.away(1);
        f.ask(3, 3);
        f.colour(4, 1);
    }

    private static void allAway(FurrowField f) {
        beds(f);
        for (int p = 0; p < 3; p++) {
            Checks.put(f, p, p * p, p + 1);
        }
        f.through(0, 2);
        f.ask(2, 2);
        for (int p = 0; p < 3; p++) {
            f.away(p);
        }
    }

    private static void fullField(FurrowField f) {
        beds(f);
        f.bed(3, 0, 2);
        f.line(-1, 1, 1);
        for (int p = 0; p < 40; p++) {
            f.set(3, 0, p);
            f.set(3, 1, p * p % 41);
            f.plant(3, 0, p % 5);
        }
        f.ask(13, 3);
    }

    private FurrowField made() {
        FurrowField f = new FurrowField();
        making.accept(f);
        if (statusAhead == 2) {
            f.set(5, 0, 1);
        } else if (statusAhead == 4) {
            f.bed(5, 0, -1);
        } else {
            f.set(0, 1, 7);
        }
        Checks.due(name + ": status() ahead", f.status(), statusAhead);
        return f;
    }

    // ---- looking

    private void same(String call, long answer, ToLongFunction<FurrowField> refused) {
        String what = name + ", status " + statusAhead + ": " + call;
        int status = answer <= -1000011 && answer >= -1000015 ? (int) (-1000010 - answer) : statusAhead;
        boolean emptiesTrace = call.startsWith("ask") && answer == Checks.NULL;
        for (int part = 0; part < Look.PARTS.size(); part++) {
            Function<FurrowField, String> look = Look.PARTS.get(part);
            FurrowField f = made();
            String trace = emptiesTrace ? Look.trace(new FurrowField()) : Look.trace(f);
            Checks.due(what, refused.applyAsLong(f), answer);
            Checks.due(what + ": status()", f.status(), status);
            Checks.isTrue(what + ": the trace is as due", Look.trace(f).equals(trace));
            String twin = twins.computeIfAbsent(part, k -> look.apply(made()));
            String seen = look.apply(f);
            Checks.isTrue(what + ": nothing else changed\n  " + seen + "\n  " + twin, seen.equals(twin));
        }
    }

    /** A call with one number that is beyond its bounds, below and above, as near and as far as can be. */
    private void bad(String call, int least, int greatest, Function<Integer, ToLongFunction<FurrowField>> with) {
        for (int number : new int[] {least - 1, greatest + 1, MIN, MAX}) {
            same(call + " with " + number, BAD, with.apply(number));
        }
    }

    // ---- the calls

    private void inAnyField() {
        beds();
        bedsThatAreThere();
        numbersOfPlants();
        whats();
        line();
        depth();
        for (int i : new int[] {-1, MIN, 16, MAX}) {
            same("trace(" + i + ")", NONE, f -> f.trace(i));
        }
    }

    private void beds() {
        bad("bed: bed", 0, 7, n -> f -> f.bed(n, 1, 5));
        bad("bed: bed, SIZE", 0, 7, n -> f -> f.bed(n, 1, -1));
        bad("bed: lane", 0, 2, n -> f -> f.bed(0, n, 5));
        bad("bed: lane, SIZE", 0, 2, n -> f -> f.bed(0, n, -1));
        same("bed: n 101", BAD, f -> f.bed(0, 1, 101));
        same("bed: n MAX", BAD, f -> f.bed(0, 1, MAX));
        same("bed: n -1", Checks.SIZE, f -> f.bed(0, 1, -1));
        same("bed: n MIN", Checks.SIZE, f -> f.bed(0, 1, MIN));
        same("bed: n -1, missing", Checks.SIZE, f -> f.bed(6, 1, -1));
        bad("set: bed", 0, 7, n -> f -> f.set(n, 0, 5));
        same("set: missing", Checks.NULL, f -> f.set(6, 0, 5));
        same("set: missing, no place", Checks.NULL, f -> f.set(6, -1, 5));
        bad("drop: bed", 0, 7, n -> f -> f.drop(n));
        same("drop: missing", Checks.NULL, f -> f.drop(6));
        bad("copy: a", 0, 7, n -> f -> f.copy(n, 0, 0, 0, 1));
        bad("copy: b", 0, 7, n -> f -> f.copy(0, 0, n, 0, 1));
        bad("copy: a, b missing", 0, 7, n -> f -> f.copy(n, 0, 6, 0, 1));
        bad("copy: b, a missing", 0, 7, n -> f -> f.copy(6, 0, n, 0, 1));
        bad("plant: bed", 0, 7, n -> f -> f.plant(n, 0, 0));
        bad("plant: kind", 0, 4, n -> f -> f.plant(0, 0, n));
        bad("plant: kind, missing", 0, 4, n -> f -> f.plant(6, 0, n));
    }

    private void bedsThatAreThere() {
        for (int i : new int[] {-1, 4, MIN, MAX}) {
            for (int lane = 0; lane < 3; lane++) {
                int bed = lane;
                same("set: i " + i, Checks.PLACE, f -> f.set(bed, i, 5));
            }
        }
        same("set: empty", Checks.PLACE, f -> f.set(5, 0, 5));
        same("copy: a missing", Checks.NULL, f -> f.copy(6, 0, 0, 9, 1));
        same("copy: b missing", Checks.NULL, f -> f.copy(0, 9, 6, 0, 1));
        same("copy: both missing", Checks.NULL, f -> f.copy(6, 0, 6, 0, 0));
        for (int lane = 0; lane < 3; lane++) {
            int a = lane;
            int b = (lane + 1) % 3;
            same("copy: two lanes", Checks.STORE, f -> f.copy(a, 0, b, 0, 1));
            same("copy: two lanes, none", Checks.STORE, f -> f.copy(a, 0, b, 0, 0));
            same("copy: two lanes, no place", Checks.STORE, f -> f.copy(a, -1, b, 5, MAX));
        }
        for (int n : new int[] {-1, MIN, 5, MAX}) {
            same("copy: n " + n, Checks.PLACE, f -> f.copy(1, 0, 1, 0, n));
        }
        for (int i : new int[] {-1, MIN, 4, MAX}) {
            same("copy: i " + i, Checks.PLACE, f -> f.copy(1, i, 1, 0, 1));
            same("copy: j " + i, Checks.PLACE, f -> f.copy(1, 0, 1, i, 1));
            same("copy: i, n that wrap", Checks.PLACE, f -> f.copy(1, i, 1, 0, MAX));
            same("copy: j, n that wrap", Checks.PLACE, f -> f.copy(1, 0, 1, i, MAX));
        }
        for (int i : new int[] {-1, MIN, 5, MAX}) {
            same("copy: none, i " + i, Checks.PLACE, f -> f.copy(1, i, 1, 0, 0));
            same("copy: none, j " + i, Checks.PLACE, f -> f.copy(1, 0, 1, i, 0));
        }
        same("copy: to the empty one", Checks.PLACE, f -> f.copy(1, 0, 5, 0, 1));
        same("copy: from the empty one", Checks.PLACE, f -> f.copy(5, 0, 1, 0, 1));
    }

    private void numbersOfPlants() {
        for (int p : new int[] {-1, given, MIN, MAX}) {
            same("move: plant " + p, BAD, f -> f.move(p, 0, 0));
            same("away: plant " + p, BAD, f -> f.away(p));
            same("colour: plant " + p, BAD, f -> f.colour(p, 1));
            same("told: plant " + p, BAD, f -> f.told(p, 0));
            same("is: plant " + p, BAD, f -> f.is(p, 0));
            same("ask: plant " + p, BAD, f -> f.ask(p, 0));
            same("through: p " + p, BAD, f -> f.through(p, 0));
            same("through: q " + p, BAD, f -> f.through(0, p));
        }
    }

    private void whats() {
        bad("colour: colour", 0, 2, n -> f -> f.colour(0, n));
        bad("told: what", 0, 3, n -> f -> f.told(0, n));
        bad("is: kind", 0, 4, n -> f -> f.is(0, n));
        bad("ask: what", 0, 3, n -> f -> f.ask(0, n));
        bad("lineAt", 0, 2, n -> f -> f.lineAt(n));
        bad("side: count", 0, 2, n -> f -> f.side(n, 0));
        bad("side: side", 0, 2, n -> f -> f.side(0, n));
        bad("halves", 0, 2, n -> f -> f.halves(n));
        bad("deepest", 0, 4, n -> f -> f.deepest(n));
        bad("most", 0, 1, n -> f -> f.most(n));
        bad("widest", 0, 1, n -> f -> f.widest(n));
        bad("count", 0, 6, n -> f -> f.count(n));
        same("furrow(-1)", BAD, f -> f.furrow(-1));
        same("furrow(MIN)", BAD, f -> f.furrow(MIN));
        same("layer(0)", BAD, f -> f.layer(0));
        same("layer(-1)", BAD, f -> f.layer(-1));
        same("layer(MIN)", BAD, f -> f.layer(MIN));
    }

    private void line() {
        bad("line: a", -1000000, 1000000, n -> f -> f.line(n, 1, 1));
        bad("line: b", -1000000, 1000000, n -> f -> f.line(1, n, 1));
        bad("line: c", -1000000, 1000000, n -> f -> f.line(1, 1, n));
        bad("line: c, and a, b 0", -1000000, 1000000, n -> f -> f.line(0, 0, n));
        for (int c : new int[] {-1000000, -1, 0, 1, 1000000}) {
            same("line(0, 0, " + c + ")", STATE, f -> f.line(0, 0, c));
        }
    }

    private void depth() {
        bad("depth: x", -1000000, 1000000, n -> f -> f.depth(n, 0, 1));
        bad("depth: y", -1000000, 1000000, n -> f -> f.depth(0, n, 1));
        bad("depth: d", 1, 1000, n -> f -> f.depth(0, 0, n));
        same("depth: d -1", BAD, f -> f.depth(0, 0, -1));
    }

    private void withoutPlants() {
        same("furrow(0)", STATE, f -> f.furrow(0));
        same("furrow(MAX)", STATE, f -> f.furrow(MAX));
        same("furrows()", STATE, f -> f.furrows());
        for (int what = 0; what < 5; what++) {
            int w = what;
            same("deepest(" + w + ")", STATE, f -> f.deepest(w));
        }
        same("widest(0)", STATE, f -> f.widest(0));
        same("widest(1)", STATE, f -> f.widest(1));
        for (int p = 0; p < given; p++) {
            away(p);
        }
        if (given == 0) {
            same("undo()", STATE, f -> f.undo());
        }
    }

    private void away(int p) {
        same("move: away", Checks.NULL, f -> f.move(p, 0, 0));
        same("move: away, beyond", Checks.NULL, f -> f.move(p, MAX, MIN));
        same("away: away", Checks.NULL, f -> f.away(p));
        same("colour: away", Checks.NULL, f -> f.colour(p, 1));
        same("colour: away, no colour", BAD, f -> f.colour(p, 3));
        same("told: away", Checks.NULL, f -> f.told(p, 3));
        same("told: away, no what", BAD, f -> f.told(p, 4));
        same("is: away", Checks.NULL, f -> f.is(p, 0));
        same("is: away, no kind", BAD, f -> f.is(p, 5));
        for (int what = 0; what < 4; what++) {
            int w = what;
            same("ask: away", Checks.NULL, f -> f.ask(p, w));
        }
        same("ask: away, no what", BAD, f -> f.ask(p, 4));
        same("through: p away", Checks.NULL, f -> f.through(p, 0));
        same("through: q away", Checks.NULL, f -> f.through(0, p));
        same("through: away twice", Checks.NULL, f -> f.through(p, p));
        same("through: away, no such", BAD, f -> f.through(p, given));
    }

    private void withPlantsOfAllSorts() {
        away(1);
        for (int p : new int[] {0, 2, 3, 5, 6}) {
            for (int colour = 0; colour < 3; colour++) {
                int c = colour;
                same("colour: kind of " + p, Checks.KIND, f -> f.colour(p, c));
            }
            same("colour: kind, no colour", BAD, f -> f.colour(p, 3));
        }
        int[][] beyond = {{1, 0}, {0, -1}, {-601, 0}, {0, 601}, {MAX, 0}, {MIN, 0}, {0, MAX}, {0, MIN}, {MAX, MIN}};
        for (int[] by : beyond) {
            same("move: beyond by " + by[0] + ", " + by[1], BAD, f -> f.move(2, by[0], by[1]));
        }
        same("through: one place", STATE, f -> f.through(5, 6));
        same("through: itself", STATE, f -> f.through(2, 2));
        int furrows = made().furrows();
        same("furrow: not so many", 0, f -> f.furrow(furrows));
        same("furrow: MAX", 0, f -> f.furrow(MAX));
    }

    private void withRoom() {
        same("plant: missing", Checks.NULL, f -> f.plant(6, 0, 0));
        same("plant: missing, no place", Checks.NULL, f -> f.plant(6, -1, 0));
        same("plant: empty", Checks.PLACE, f -> f.plant(5, 0, 0));
        for (int lane = 0; lane < 3; lane++) {
            int bed = lane;
            for (int i : new int[] {-1, MIN, 3, 4, MAX - 1, MAX}) {
                same("plant: i " + i, Checks.PLACE, f -> f.plant(bed, i, 0));
            }
            same("plant: x 301", BAD, f -> f.plant(bed, 0, 0));
            same("plant: y -301", BAD, f -> f.plant(bed, 1, 0));
            same("plant: x -301", BAD, f -> f.plant(bed, 2, 0));
        }
    }

    private void withoutRoom() {
        same("plant: full", FULL, f -> f.plant(3, 0, 0));
        same("plant: full, missing", FULL, f -> f.plant(6, 0, 0));
        same("plant: full, no place", FULL, f -> f.plant(3, -1, 0));
        same("plant: full, beyond", FULL, f -> f.plant(0, 0, 0));
        same("plant: full, no kind", BAD, f -> f.plant(3, 0, 5));
        same("plant: full, no bed", BAD, f -> f.plant(8, 0, 0));
        for (int what = 0; what < 5; what++) {
            int w = what;
            same("deepest(" + w + ")", FULL, f -> f.deepest(w));
        }
    }
}
