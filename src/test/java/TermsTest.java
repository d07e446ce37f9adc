/** "Terms": each sentence that names a bound, the order of the refusals, or what is empty or full. */
public final class TermsTest {
    private static final int NONE = FurrowField.NONE, BAD = FurrowField.BAD, STATE = FurrowField.STATE;
    private static final int FULL = FurrowField.FULL, MIN = Integer.MIN_VALUE, MAX = Integer.MAX_VALUE;

    public static void main(String[] args) {
        numbersGoFromZeroOn();
        badAheadOfState();
        badAheadOfFull();
        badAheadOfFindings();
        stateAheadOfFull();
        fullAheadOfFindings();
        findingsInTheirTime();
        findingsAheadOfLaterRefusals();
        numbersOfFindings();
        fortyPlantsAtMostEver();
        wholePlaces();
        severalAtOnePlace();
        onePlantAway();
        kinds();
        colourAtFirst();
        counts();
        bedsMissingAtFirst();
        itemsOfABed();
        noCommonDivisor();
        notBothZero();
        leftAndRight();
        moreThanHalf();
        firstNumberAboveZero();
        firstSixteenOfTheTrace();
        otherCallsLeaveNoTrace();
        objectsApart();
        Checks.end();
    }

    // ---- "Numbers go from 0 on. Refusals are answers, the first of these that fits"

    private static void numbersGoFromZeroOn() {
        FurrowField f = new FurrowField();
        Checks.due("BED 0", f.bed(0, 0, 2), 2);
        Checks.due("ITEM 0", f.set(0, 0, 4), 4);
        Checks.due("PLANT 0", f.plant(0, 0, 0), 0);
        Checks.due("PLANT 1", f.plant(0, 0, 0), 1);
        Checks.due("ask", f.ask(0, 0), 0);
        Checks.due("number 0 of THE TRACE", f.trace(0), 10);
        Checks.due("FURROW 0", f.furrow(0), 1);
        Checks.due("number 0 of THE LINE", f.lineAt(0), 0);
        Checks.due("BED -1", f.drop(-1), BAD);
        Checks.due("ITEM -1", f.set(0, -1, 4), Checks.PLACE);
        Checks.due("PLANT -1", f.told(-1, 0), BAD);
        Checks.due("number -1 of THE TRACE", f.trace(-1), NONE);
        Checks.due("FURROW -1", f.furrow(-1), BAD);
        Checks.due("number -1 of THE LINE", f.lineAt(-1), BAD);
    }

    private static void badAheadOfState() {
        FurrowField f = new FurrowField();
        Checks.due("line: BAD", f.line(0, 0, 1000001), BAD);
        Checks.due("line: STATE", f.line(0, 0, 1000000), STATE);
        Checks.due("furrow: BAD", f.furrow(-1), BAD);
        Checks.due("furrow: STATE", f.furrow(0), STATE);
        Checks.due("deepest: BAD", f.deepest(5), BAD);
        Checks.due("deepest: STATE", f.deepest(4), STATE);
        Checks.due("widest: BAD", f.widest(2), BAD);
        Checks.due("widest: STATE", f.widest(1), STATE);
        FurrowField one = Checks.field(5, 5, 0, 5, 5, 1);
        Checks.due("through: BAD", one.through(0, 2), BAD);
        Checks.due("through: STATE", one.through(0, 1), STATE);
        Checks.due("widest of one place: BAD", one.widest(-1), BAD);
        Checks.due("widest of one place: STATE", one.widest(0), STATE);
    }

    private static void badAheadOfFull() {
        FurrowField f = fullField();
        Checks.due("plant: no kind", f.plant(0, 0, 5), BAD);
        Checks.due("plant: no bed", f.plant(8, 0, 0), BAD);
        Checks.due("plant: FULL", f.plant(0, 0, 4), FULL);
        Checks.due("deepest: BAD", f.deepest(5), BAD);
        Checks.due("deepest: FULL", f.deepest(4), FULL);
    }

    private static void badAheadOfFindings() {
        FurrowField f = Checks.field(0, 0, 1, 1, 1, 1);
        f.away(0);
        f.bed(1, 0, 1);
        Checks.due("bed: no BED, SIZE", f.bed(8, 0, -1), BAD);
        Checks.due("bed: no LANE, SIZE", f.bed(0, 3, -1), BAD);
        Checks.due("set: no BED, PLACE", f.set(8, -1, 0), BAD);
        Checks.due("copy: NULL, no BED", f.copy(0, 0, 8, 0, 1), BAD);
        Checks.due("copy: no BED, PLACE", f.copy(8, 0, 1, 0, 9), BAD);
        Checks.due("plant: NULL, no KIND", f.plant(0, 0, 5), BAD);
        Checks.due("plant: PLACE, no KIND", f.plant(1, 0, -1), BAD);
        Checks.due("colour: NULL, no COLOUR", f.colour(0, 3), BAD);
        Checks.due("colour: KIND, no COLOUR", f.colour(1, -1), BAD);
        Checks.due("told: NULL, no such what", f.told(0, 4), BAD);
        Checks.due("is: NULL, no KIND", f.is(0, 5), BAD);
        Checks.due("ask: NULL, no ASK", f.ask(0, 4), BAD);
        Checks.due("through: NULL, no PLANT", f.through(0, 2), BAD);
        Checks.due("through: no PLANT, NULL", f.through(2, 0), BAD);
    }

    private static void stateAheadOfFull() {
        FurrowField f = fullField();
        for (int p = 0; p < 40; p++) {
            f.away(p);
        }
        Checks.due("deepest: 40 given, none there", f.deepest(0), STATE);
        Checks.due("plant: none there, FULL", f.plant(0, 0, 0), FULL);
    }

    private static void fullAheadOfFindings() {
        FurrowField f = fullField();
        Checks.due("plant: FULL, NULL", f.plant(7, 0, 0), FULL);
        Checks.due("plant: FULL, PLACE", f.plant(0, -1, 0), FULL);
        f.set(0, 0, 301);
        Checks.due("plant: FULL, then BAD", f.plant(0, 0, 0), FULL);
    }

    private static void findingsInTheirTime() {
        FurrowField f = Checks.field(0, 0, 1);
        f.bed(1, 0, 1);
        f.bed(2, 1, 1);
        Checks.due("set: NULL, PLACE", f.set(0, -1, 0), Checks.NULL);
        Checks.due("copy: NULL of a, PLACE", f.copy(0, -1, 1, 9, -1), Checks.NULL);
        Checks.due("copy: NULL of b, PLACE", f.copy(1, -1, 0, 9, -1), Checks.NULL);
        Checks.due("copy: STORE, PLACE", f.copy(1, -1, 2, 9, -1), Checks.STORE);
        Checks.due("copy: PLACE", f.copy(1, -1, 1, 9, -1), Checks.PLACE);
        Checks.due("plant: NULL, PLACE", f.plant(0, -1, 0), Checks.NULL);
        f.away(0);
        Checks.due("colour: NULL, KIND", f.colour(0, 0), Checks.NULL);
    }

    private static void findingsAheadOfLaterRefusals() {
        FurrowField f = Checks.field(300, 300, 1, 300, 300, 1);
        f.bed(1, 0, 1);
        f.set(1, 0, 301);
        Checks.due("plant: x beyond, y at no place", f.plant(1, 0, 0), Checks.PLACE);
        f.away(0);
        Checks.due("move: NULL, then BAD", f.move(0, 1, 1), Checks.NULL);
        Checks.due("through: NULL, then STATE", f.through(0, 0), Checks.NULL);
        Checks.due("through: NULL of one, then STATE", f.through(1, 0), Checks.NULL);
    }

    /** "-1000010 less 1 NULL .., 2 PLACE .., 3 KIND .., 4 SIZE .., 5 STORE" */
    private static void numbersOfFindings() {
        FurrowField f = Checks.field(0, 0, 1);
        f.bed(1, 0, 0);
        f.bed(2, 1, 0);
        dueFound(f, f.drop(0), 1);
        dueFound(f, f.set(1, 0, 0), 2);
        dueFound(f, f.colour(0, 0), 3);
        dueFound(f, f.bed(1, 0, -1), 4);
        dueFound(f, f.copy(1, 0, 2, 0, 0), 5);
        f.away(0);
        dueFound(f, f.away(0), 1);
    }

    private static void dueFound(FurrowField f, long answer, int number) {
        Checks.due("FINDING " + number, answer, -1000010 - number);
        Checks.due("status() of FINDING " + number, f.status(), number);
    }

    // ---- part 1

    private static FurrowField fullField() {
        FurrowField f = new FurrowField();
        f.bed(0, 2, 2);
        for (int p = 0; p < 40; p++) {
            f.set(0, 0, p);
            Checks.due("plant " + p, f.plant(0, 0, p % 5), p);
        }
        return f;
    }

    /** "PLANTS 0, 1, .. as they were planted, 40 at most ever" */
    private static void fortyPlantsAtMostEver() {
        FurrowField f = fullField();
        Checks.due("the 41st", f.plant(0, 0, 0), FULL);
        Checks.due("PLANT 39", f.told(39, 0), 39);
        Checks.due("PLANT 40", f.told(40, 0), BAD);
        for (int p = 0; p < 40; p++) {
            Checks.due("away(" + p + ")", f.away(p), 39 - p);
        }
        Checks.due("none is there, but 40 there were", f.plant(0, 0, 0), FULL);
        Checks.due("numbers given", f.count(1), 40);
        Checks.due("there", f.count(0), 0);
        Checks.due("undo of away", f.undo(), 1);
        Checks.due("still 40", f.plant(0, 0, 0), FULL);
    }

    /** "stand at whole places x, y, -300 to 300 both" */
    private static void wholePlaces() {
        FurrowField f = new FurrowField();
        f.bed(0, 1, 2);
        int[] ends = {-301, -300, 300, 301};
        int planted = 0;
        for (int x : ends) {
            for (int y : ends) {
                f.set(0, 0, x);
                f.set(0, 1, y);
                boolean good = x >= -300 && x <= 300 && y >= -300 && y <= 300;
                Checks.due("at " + x + ", " + y, f.plant(0, 0, 0), good ? planted : BAD);
                planted += good ? 1 : 0;
            }
        }
        Checks.due("four corners", f.count(1), 4);
    }

    private static void severalAtOnePlace() {
        FurrowField f = Checks.field(300, -300, 0, 300, -300, 3, 300, -300, 2);
        Checks.due("all three are there", f.count(0), 3);
        Checks.due("all three count", f.depth(300, -300, 1), 5);
        f.away(1);
        Checks.due("one of them is away", f.depth(300, -300, 1), 2);
        Checks.due("the next stands", f.told(2, 0), 300);
    }

    /** "One that is AWAY is there no more": no sum, LINE, LAYER or STRIP knows it. */
    private static void onePlantAway() {
        FurrowField f = Checks.field(0, 0, 1, 10, 0, 2, 3, 9, 3);
        f.away(2);
        FurrowField never = Checks.field(0, 0, 1, 10, 0, 2);
        Checks.due("numbers given", f.count(1), 3);
        for (int what : new int[] {0, 3, 4, 5, 6}) {
            Checks.due("count(" + what + ")", f.count(what), never.count(what));
        }
        for (int what = 0; what < 5; what++) {
            Checks.due("deepest(" + what + ")", f.deepest(what), never.deepest(what));
        }
        Checks.due("furrows()", f.furrows(), 1);
        Checks.due("most(1)", f.most(1), 2);
        Checks.due("widest(0)", f.widest(0), 100);
        Checks.due("layer(1)", f.layer(1), 2);
        Checks.due("side(2, 0)", f.side(2, 0), 0);
        Checks.due("depth(3, 9, 1)", f.depth(3, 9, 1), 0);
    }

    /** "KINDS: 0 PLANT; .. 4 DOUBTFUL" */
    private static void kinds() {
        FurrowField f = new FurrowField();
        f.bed(0, 0, 2);
        for (int kind : new int[] {MIN, -1, 5, MAX}) {
            Checks.due("KIND " + kind, f.plant(0, 0, kind), BAD);
        }
        for (int kind = 0; kind < 5; kind++) {
            Checks.due("KIND " + kind, f.plant(0, 0, kind), kind);
            Checks.due("told", f.told(kind, 2), kind);
        }
    }

    /** "DOUBTFUL .. with a COLOUR 0 (none, at first)", also where a coloured one had the number. */
    private static void colourAtFirst() {
        FurrowField f = Checks.field(0, 0, 4);
        Checks.due("RED of none", f.ask(0, 0), 0);
        Checks.due("BLUE of none", f.ask(0, 1), 0);
        Checks.due("what it was at first", f.colour(0, 2), 0);
        Checks.put(f, 1, 1, 4);
        f.undo();
        Checks.put(f, 1, 1, 4);
        Checks.due("what the next one was", f.colour(1, 1), 0);
        Checks.due("what the first is still", f.colour(0, 0), 2);
    }

    /** "COUNTS of a PLANT: RED, BLUE, ALL, by the ASKS of part 4" */
    private static void counts() {
        int[][] due = {{0, 0, 1}, {1, 0, 1}, {0, 1, 1}, {2, 0, 3}, {0, 0, 1}};
        for (int kind = 0; kind < 5; kind++) {
            dueCounts("KIND " + kind, Checks.field(1, 1, kind), due[kind]);
        }
        FurrowField f = Checks.field(1, 1, 4);
        f.colour(0, 1);
        dueCounts("red", f, new int[] {1, 0, 1});
        f.colour(0, 2);
        dueCounts("blue", f, new int[] {0, 1, 1});
        f.colour(0, 0);
        dueCounts("none again", f, new int[] {0, 0, 1});
    }

    private static void dueCounts(String when, FurrowField f, int[] due) {
        for (int count = 0; count < 3; count++) {
            Checks.due(when + ": ask(0, " + count + ")", f.ask(0, count), due[count]);
            Checks.due(when + ": side(" + count + ", 0)", f.side(count, 0), due[count]);
            Checks.due(when + ": count(" + (4 + count) + ")", f.count(4 + count), due[count]);
        }
        Checks.due(when + ": depth", f.depth(1, 1, 1), due[2]);
    }

    /** "BEDS 0 .. 7 are missing (at first)" */
    private static void bedsMissingAtFirst() {
        FurrowField f = new FurrowField();
        for (int bed = 0; bed < 8; bed++) {
            Checks.due("count(2)", f.count(2), bed);
            Checks.due("set", f.set(bed, 0, 1), Checks.NULL);
            Checks.due("drop", f.drop(bed), Checks.NULL);
            Checks.due("copy from", f.copy(bed, 0, 0, 0, 0), Checks.NULL);
            Checks.due("copy to", f.copy(0, 0, bed, 0, 0), Checks.NULL);
            Checks.due("plant", f.plant(bed, 0, 0), Checks.NULL);
            Checks.due("bed", f.bed(bed, bed % 3, 0), 0);
        }
        Checks.due("all eight", f.count(2), 8);
    }

    /** "a LANE (0 shorts, 1 ints, 2 longs) and 0 to 100 ITEMS, 0 at first" */
    private static void itemsOfABed() {
        long v = (3L << 40) + (5L << 20) + 7;
        long[] kept = {7, (5L << 20) + 7, v};
        for (int lane = 0; lane < 3; lane++) {
            FurrowField f = new FurrowField();
            Checks.due("100 ITEMS", f.bed(0, lane, 100), 100);
            for (int i = 0; i < 99; i++) {
                Checks.due("ITEMS " + i + ", " + (i + 1), f.plant(0, i, 0), 0);
                Checks.due("x is 0 at first", f.told(0, 0), 0);
                Checks.due("y is 0 at first", f.told(0, 1), 0);
                f.undo();
            }
            Checks.due("ITEM 99", f.set(0, 99, v), kept[lane]);
            Checks.due("ITEM 100", f.set(0, 100, v), Checks.PLACE);
            Checks.due("0 ITEMS", f.bed(1, lane, 0), 0);
            Checks.due("ITEM 0 of none", f.set(1, 0, v), Checks.PLACE);
            Checks.due("1 ITEM", f.bed(2, lane, 1), 1);
            Checks.due("ITEM 0 of one", f.set(2, 0, v), kept[lane]);
            Checks.due("ITEM 1 of one", f.set(2, 1, v), Checks.PLACE);
        }
    }

    // ---- a LINE

    /** "whole numbers without a common divisor above 1" */
    private static void noCommonDivisor() {
        FurrowField f = new FurrowField();
        dueLine(f, 1000000, 1000000, 1000000, 1, 1, 1);
        dueLine(f, -1000000, 0, 0, -1, 0, 0);
        dueLine(f, 0, 1000000, 0, 0, 1, 0);
        dueLine(f, 0, 1000000, 999999, 0, 1000000, 999999);
        dueLine(f, 0, -500000, 1000000, 0, -1, 2);
        dueLine(f, 1000000, 0, -1, 1000000, 0, -1);
        dueLine(f, 6, 10, 15, 6, 10, 15);
        dueLine(f, -6, -10, -14, -3, -5, -7);
        dueLine(f, 832040, 514229, 0, 832040, 514229, 0);
        FurrowField far = Checks.field(-300, -300, 0, 300, 300, 0, 300, -300, 0);
        far.through(0, 1);
        Checks.dueLine("600 in common", far, 1, -1, 0);
        far.through(0, 2);
        Checks.dueLine("level", far, 0, 1, 300);
        far.through(1, 2);
        Checks.dueLine("upright", far, 1, 0, -300);
    }

    private static void dueLine(FurrowField f, int a, int b, int c, int... due) {
        String call = "line(" + a + ", " + b + ", " + c + ")";
        Checks.due(call, f.line(a, b, c), 1);
        Checks.dueLine(call, f, due[0], due[1], due[2]);
    }

    private static void notBothZero() {
        FurrowField f = new FurrowField();
        Checks.due("both 0", f.line(0, 0, 1), STATE);
        Checks.dueLine("stays", f, 0, 1, 0);
        Checks.due("a alone 0", f.line(0, 5, 1), 1);
        Checks.due("b alone 0", f.line(5, 0, 1), 1);
    }

    /** "0 on it, above 0 LEFT of it, below 0 RIGHT": also by 1, where the products are greatest. */
    private static void leftAndRight() {
        int[][] corners = {{300, 300}, {300, -300}, {-300, 300}, {-300, -300}};
        FurrowField f = new FurrowField();
        for (int[] at : corners) {
            FurrowField one = Checks.field(at[0], at[1], 0);
            for (int c = -1; c <= 1; c++) {
                int a = 1000000 - 7;
                int b = -a * at[0] / at[1];
                // a x + b y is 0 at the corner.
                one.line(a, b, c);
                dueSide("c " + c, one, c > 0 ? 0 : c == 0 ? 1 : 2);
            }
            one.line(1000000, 999999, 1000000);
            dueSide("far off", one, at[0] * 1000000L + at[1] * 999999L + 1000000L > 0 ? 0 : 2);
            one.line(-1000000, 999999, -1000000);
            dueSide("far off", one, -at[0] * 1000000L + at[1] * 999999L - 1000000L > 0 ? 0 : 2);
        }
        Checks.due("none", f.side(2, 0) + f.side(2, 1) + f.side(2, 2), 0);
    }

    private static void dueSide(String when, FurrowField one, int due) {
        for (int side = 0; side < 3; side++) {
            Checks.due(when + ": side " + side, one.side(2, side), side == due ? 1 : 0);
        }
    }

    /** "if neither LEFT nor RIGHT of it more than half of the sum stands" */
    private static void moreThanHalf() {
        FurrowField half = Checks.field(1, 0, 1, 0, 0, 1);
        half.line(1, 0, 0);
        Checks.due("half LEFT", half.halves(0), 1);
        half.line(-1, 0, 0);
        Checks.due("half RIGHT", half.halves(0), 1);
        FurrowField odd = Checks.field(1, 0, 1, 2, 0, 1, 0, 0, 1);
        odd.line(1, 0, 0);
        Checks.due("two of three LEFT", odd.halves(0), 0);
        odd.line(-1, 0, 0);
        Checks.due("two of three RIGHT", odd.halves(0), 0);
        odd.line(1, 0, -1);
        Checks.due("one of three on either side", odd.halves(0), 1);
        odd.line(1, 0, 5);
        Checks.due("all LEFT", odd.halves(0), 0);
        Checks.due("a sum of 0", odd.halves(1), 1);
        FurrowField twice = Checks.field(1, 0, 3, -1, 0, 1, -2, 0, 1);
        twice.line(1, 0, 0);
        Checks.due("a DOUBLE against two", twice.halves(0), 1);
        Checks.due("three against two of ALL", twice.halves(2), 0);
        Checks.due("none stands", new FurrowField().halves(0), 1);
    }

    /** "Of a LINE through two places the first number that is not 0 is above 0." */
    private static void firstNumberAboveZero() {
        int[][] places = {{1, 2, -1, 0, -1}, {-2, 1, 1, 2, 0}, {0, 5, 0, 1, 0}, {3, 0, 1, 0, 0}, {-2, -7, 7, -2, 0}};
        for (int[] at : places) {
            FurrowField f = Checks.field(0, 0, 0, at[0], at[1], 0);
            f.through(0, 1);
            int first = f.lineAt(0);
            int second = f.lineAt(1);
            int third = f.lineAt(2);
            Checks.isTrue("above 0 first", first > 0 || (first == 0 && second > 0));
            Checks.due("through PLANT 0", f.side(2, 1), 2);
            f.through(1, 0);
            Checks.dueLine("the other way round", f, first, second, third);
            f.furrow(0);
            Checks.dueLine("as a FURROW", f, first, second, third);
        }
    }

    // ---- part 4

    /**
     * "each of which leaves its number in THE TRACE as it begins (the first 16)": no ASK has more
     * than six, and each ask() begins anew, so that 16 are never passed by any run of calls.
     */
    private static void firstSixteenOfTheTrace() {
        FurrowField f = Checks.field(0, 0, 0, 0, 0, 1, 0, 0, 2, 0, 0, 3, 0, 0, 4);
        int longest = 0;
        for (int colour = 0; colour < 3; colour++) {
            f.colour(4, colour);
            for (int p = 0; p < 5; p++) {
                for (int what = 0; what < 4; what++) {
                    f.ask(p, what);
                    longest = Math.max(longest, length(f));
                }
            }
        }
        Checks.due("the longest", longest, 6);
        for (int again = 0; again < 17; again++) {
            f.ask(3, 3);
        }
        Checks.dueTrace("the latest ask() alone", f, 40, 31, 30, 12, 11, 20);
        Checks.due("number 15", f.trace(15), NONE);
        Checks.due("number 16", f.trace(16), NONE);
        f.ask(0, 0);
        Checks.dueTrace("a short one behind a long one", f, 10);
    }

    private static int length(FurrowField f) {
        int length = 0;
        while (length < 17 && f.trace(length) != NONE) {
            length++;
        }
        return length;
    }

    /** "Other calls than ask() leave nothing in THE TRACE." */
    private static void otherCallsLeaveNoTrace() {
        FurrowField f = new FurrowField();
        allOtherCalls(f);
        Checks.dueTrace("no ask() yet", f);
        f.ask(1, 1);
        allOtherCalls(f);
        Checks.dueTrace("behind an ask()", f, 22, 20);
    }

    private static void allOtherCalls(FurrowField f) {
        f.bed(0, 0, 4);
        f.bed(1, 0, 4);
        f.set(0, 0, 5);
        f.copy(0, 0, 1, 2, 1);
        f.plant(1, 1, 3);
        f.plant(1, 2, 4);
        f.drop(1);
        f.move(0, 1, 2);
        f.colour(1, 2);
        f.colour(1, 0);
        f.told(0, 3);
        f.is(1, 4);
        f.through(0, 1);
        f.line(1, 1, 1);
        f.side(0, 0);
        f.halves(2);
        f.furrow(0);
        f.depth(0, 0, 1);
        f.deepest(0);
        f.layer(1);
        f.most(1);
        f.widest(0);
        f.count(6);
        f.status();
        f.away(0);
        f.undo();
    }

    /** No two objects share anything: "No PLANTS, no BEDS" of a new one beside a full one. */
    private static void objectsApart() {
        FurrowField full = fullField();
        full.ask(3, 3);
        full.bed(7, 0, -1);
        full.line(1, 2, 3);
        FurrowField f = new FurrowField();
        Checks.due("count(1)", f.count(1), 0);
        Checks.due("count(2)", f.count(2), 0);
        Checks.due("status()", f.status(), 0);
        Checks.dueTrace("new", f);
        Checks.dueLine("new", f, 0, 1, 0);
        Checks.due("undo()", f.undo(), STATE);
        Checks.put(f, 1, 1, 1);
        Checks.due("the full one keeps its own", full.told(0, 0), 0);
        Checks.due("the full one keeps its number", full.count(1), 40);
    }
}
