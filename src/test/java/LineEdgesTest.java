/** Promises 15 to 21, sentence by sentence: the last good number and the first that is not, on both sides. */
public final class LineEdgesTest {
    private static final int BAD = FurrowField.BAD, STATE = FurrowField.STATE;
    private static final int MIN = Integer.MIN_VALUE, MAX = Integer.MAX_VALUE, FAR = 1000000;

    public static void main(String[] args) {
        lineBounds();
        lineState();
        lineInLeastTerms();
        throughNumbers();
        throughAway();
        throughOnePlace();
        throughFarPlaces();
        lineAtNumbers();
        sideNumbers();
        sideOfNone();
        sideOfAll();
        sideFarOff();
        halvesNumbers();
        halvesOfAll();
        furrowNumbers();
        furrowsWithoutPlants();
        furrowsOfOnePlace();
        furrowsOfTwo();
        furrowsOfOneLine();
        furrowsMost();
        furrowsByTheFirstPair();
        furrowsHalfAndMore();
        Checks.end();
    }

    // ---- promise 15

    /** "THE LINE is a, b, c (each -1000000 to 1000000)" */
    private static void lineBounds() {
        FurrowField f = new FurrowField();
        for (int end : new int[] {-FAR, FAR}) {
            Checks.due("a " + end, f.line(end, 1, 2), 1);
            Checks.dueLine("a " + end, f, end, 1, 2);
            Checks.due("b " + end, f.line(1, end, 2), 1);
            Checks.dueLine("b " + end, f, 1, end, 2);
            Checks.due("c " + end, f.line(1, 2, end), 1);
            Checks.dueLine("c " + end, f, 1, 2, end);
        }
        f.line(7, 8, 9);
        for (int end : new int[] {-FAR - 1, FAR + 1, MIN, MAX, MIN + FAR, MAX - FAR}) {
            Checks.due("a " + end, f.line(end, 1, 2), BAD);
            Checks.due("b " + end, f.line(1, end, 2), BAD);
            Checks.due("c " + end, f.line(1, 2, end), BAD);
            Checks.due("all " + end, f.line(end, end, end), BAD);
        }
        Checks.dueLine("stays", f, 7, 8, 9);
    }

    /** "STATE: a and b are 0" */
    private static void lineState() {
        FurrowField f = new FurrowField();
        for (int c : new int[] {-FAR, -1, 0, 1, FAR}) {
            Checks.due("0, 0, " + c, f.line(0, 0, c), STATE);
            Checks.dueLine("stays", f, 0, 1, 0);
        }
        Checks.due("0, 0, beyond", f.line(0, 0, FAR + 1), BAD);
        Checks.due("0, 0, beyond below", f.line(0, 0, -FAR - 1), BAD);
        Checks.due("1, 0", f.line(1, 0, 0), 1);
        Checks.due("0, -1", f.line(0, -1, 0), 1);
        Checks.dueLine("the sign stays", f, 0, -1, 0);
    }

    /** "without common divisors" */
    private static void lineInLeastTerms() {
        FurrowField f = new FurrowField();
        int[][] due = {
            {FAR, FAR, FAR, 1, 1, 1}, {-FAR, -FAR, -FAR, -1, -1, -1}, {FAR, 0, 0, 1, 0, 0}, {0, -FAR, 0, 0, -1, 0},
            {-FAR, FAR, 0, -1, 1, 0}, {999999, -999999, 333333, 3, -3, 1}, {FAR, 999999, 0, FAR, 999999, 0},
            {500000, FAR, -FAR, 1, 2, -2}, {6, 10, 15, 6, 10, 15}, {0, 6, 4, 0, 3, 2}, {6, 0, -4, 3, 0, -2},
            {2, 4, 1, 2, 4, 1}, {-2, -2, -2, -1, -1, -1}};
        for (int[] d : due) {
            Checks.due("line", f.line(d[0], d[1], d[2]), 1);
            Checks.dueLine("of " + d[0] + ", " + d[1] + ", " + d[2], f, d[3], d[4], d[5]);
        }
    }

    // ---- promise 16

    private static void throughNumbers() {
        FurrowField f = new FurrowField();
        Checks.due("none is given", f.through(0, 0), BAD);
        Checks.put(f, 0, 0, 0);
        Checks.put(f, 1, 3, 0);
        for (int p : new int[] {-1, 2, 40, MIN, MAX}) {
            Checks.due("p " + p, f.through(p, 0), BAD);
            Checks.due("q " + p, f.through(0, p), BAD);
            Checks.due("both " + p, f.through(p, p), BAD);
        }
        Checks.dueLine("stays", f, 0, 1, 0);
        Checks.due("0, 1", f.through(0, 1), 1);
        Checks.dueLine("0, 1", f, 3, -1, 0);
    }

    private static void throughAway() {
        FurrowField f = Checks.field(0, 0, 0, 1, 3, 0, 0, 0, 0);
        f.away(2);
        Checks.due("p away", f.through(2, 1), Checks.NULL);
        Checks.due("q away", f.through(1, 2), Checks.NULL);
        Checks.due("at one place, one away", f.through(0, 2), Checks.NULL);
        Checks.due("itself, away", f.through(2, 2), Checks.NULL);
        Checks.dueLine("stays", f, 0, 1, 0);
    }

    /** "then STATE: they stand at one place" */
    private static void throughOnePlace() {
        FurrowField f = Checks.field(5, 5, 0, 5, 5, 1, 5, 6, 2, 6, 5, 3);
        Checks.due("itself", f.through(0, 0), STATE);
        Checks.due("two at one place", f.through(0, 1), STATE);
        Checks.dueLine("stays", f, 0, 1, 0);
        Checks.due("unlike y alone", f.through(0, 2), 1);
        Checks.dueLine("upright", f, 1, 0, -5);
        Checks.due("unlike x alone", f.through(0, 3), 1);
        Checks.dueLine("level", f, 0, 1, -5);
        f.move(2, 0, -1);
        Checks.due("moved to one place", f.through(2, 0), STATE);
        Checks.dueLine("stays", f, 0, 1, -5);
    }

    private static void throughFarPlaces() {
        FurrowField f = Checks.field(-300, 300, 0, 300, -299, 0, 299, -300, 0, -299, -300, 0);
        f.through(0, 1);
        Checks.dueLine("0, 1", f, 599, 600, -300);
        f.through(2, 0);
        Checks.dueLine("2, 0", f, 600, 599, 300);
        f.through(3, 1);
        Checks.dueLine("3, 1", f, 1, -599, -179401);
        f.through(0, 3);
        Checks.dueLine("0, 3", f, 600, 1, 179700);
    }

    // ---- promise 17

    private static void lineAtNumbers() {
        FurrowField f = new FurrowField();
        f.line(-FAR, 3, FAR);
        Checks.due("lineAt(0)", f.lineAt(0), -FAR);
        Checks.due("lineAt(1)", f.lineAt(1), 3);
        Checks.due("lineAt(2)", f.lineAt(2), FAR);
        for (int k : new int[] {-1, 3, MIN, MAX}) {
            Checks.due("lineAt(" + k + ")", f.lineAt(k), BAD);
        }
    }

    // ---- promises 18 and 19

    private static void sideNumbers() {
        FurrowField f = Checks.field(0, 0, 3);
        for (int n : new int[] {-1, 3, MIN, MAX}) {
            Checks.due("COUNT " + n, f.side(n, 1), BAD);
            Checks.due("side " + n, f.side(0, n), BAD);
            Checks.due("both " + n, f.side(n, n), BAD);
        }
        Checks.due("COUNT 0", f.side(0, 1), 2);
        Checks.due("COUNT 2", f.side(2, 1), 3);
    }

    private static void sideOfNone() {
        FurrowField f = Checks.field(0, 0, 3);
        f.away(0);
        for (int count = 0; count < 3; count++) {
            for (int side = 0; side < 3; side++) {
                Checks.due("all away", f.side(count, side), 0);
                Checks.due("none given", new FurrowField().side(count, side), 0);
            }
        }
    }

    /** A field of 40 DOUBLES: the greatest sums there are. */
    private static void sideOfAll() {
        FurrowField f = new FurrowField();
        f.bed(0, 0, 2);
        for (int p = 0; p < 40; p++) {
            f.plant(0, 0, 3);
        }
        int[][] lines = {{0, 1, 1}, {0, 1, 0}, {0, 1, -1}};
        for (int at = 0; at < 3; at++) {
            f.line(lines[at][0], lines[at][1], lines[at][2]);
            for (int side = 0; side < 3; side++) {
                Checks.due("RED", f.side(0, side), side == at ? 80 : 0);
                Checks.due("BLUE", f.side(1, side), 0);
                Checks.due("ALL", f.side(2, side), side == at ? 120 : 0);
            }
        }
    }

    private static void sideFarOff() {
        FurrowField f = Checks.field(300, 299, 0, -300, -299, 1, 300, 300, 2, -300, -300, 3);
        // 299 x - 300 y is 0 at the first two, 300 below and above at the others.
        f.line(299, -300, 0);
        dueSides("through two", f, 3, 2, 1);
        f.line(299, -300, 300);
        dueSides("through one LEFT", f, 5, 1, 0);
        f.line(299, -300, -301);
        dueSides("1 beyond", f, 0, 0, 6);
        f.line(FAR, FAR, FAR - 1);
        dueSides("all numbers far", f, 2, 0, 4);
        f.line(-FAR, -FAR, 1 - FAR);
        dueSides("all numbers far below", f, 4, 0, 2);
    }

    private static void dueSides(String when, FurrowField f, int left, int on, int right) {
        Checks.due(when + ": LEFT", f.side(2, 0), left);
        Checks.due(when + ": on it", f.side(2, 1), on);
        Checks.due(when + ": RIGHT", f.side(2, 2), right);
    }

    private static void halvesNumbers() {
        FurrowField f = Checks.field(0, 5, 3, 0, 0, 2);
        for (int n : new int[] {-1, 3, MIN, MAX}) {
            Checks.due("halves(" + n + ")", f.halves(n), BAD);
        }
        Checks.due("halves(0)", f.halves(0), 0);
        Checks.due("halves(1)", f.halves(1), 1);
        Checks.due("halves(2)", f.halves(2), 0);
        f.away(0);
        f.away(1);
        Checks.due("all away", f.halves(0) + f.halves(1) + f.halves(2), 3);
    }

    /** Of 40 DOUBLES the sums are greatest: 60 of 120 are half, 63 are more. */
    private static void halvesOfAll() {
        FurrowField f = new FurrowField();
        f.bed(0, 0, 2);
        for (int p = 0; p < 40; p++) {
            f.set(0, 1, p < 20 ? 300 : -300);
            f.plant(0, 0, 3);
        }
        Checks.due("half on either side: RED", f.halves(0), 1);
        Checks.due("half on either side: ALL", f.halves(2), 1);
        f.move(0, 0, -300);
        Checks.due("one on it: RED", f.halves(0), 1);
        f.move(0, 0, -300);
        Checks.due("more than half RIGHT: RED", f.halves(0), 0);
        Checks.due("more than half RIGHT: ALL", f.halves(2), 0);
        f.line(0, -1, 0);
        Checks.due("more than half LEFT: RED", f.halves(0), 0);
        Checks.due("more than half LEFT: ALL", f.halves(2), 0);
        Checks.due("BLUE of none", f.halves(1), 1);
    }

    // ---- promises 20 and 21

    /** "THE LINE is the k-th FURROW: 1; 0: there are not so many (THE LINE stays). BAD: k below 0" */
    private static void furrowNumbers() {
        FurrowField f = Checks.field(0, 0, 0, 3, 0, 0, 0, 3, 0);
        Checks.due("furrows()", f.furrows(), 3);
        Checks.due("the first", f.furrow(0), 1);
        Checks.dueLine("the first", f, 0, 1, 0);
        Checks.due("the last", f.furrow(2), 1);
        Checks.dueLine("the last", f, 1, 1, -3);
        for (int k : new int[] {3, 4, 780, MAX}) {
            Checks.due("furrow(" + k + ")", f.furrow(k), 0);
            Checks.dueLine("stays", f, 1, 1, -3);
        }
        for (int k : new int[] {-1, MIN}) {
            Checks.due("furrow(" + k + ")", f.furrow(k), BAD);
            Checks.dueLine("stays", f, 1, 1, -3);
        }
    }

    /** "STATE: there is no PLANT." */
    private static void furrowsWithoutPlants() {
        FurrowField f = new FurrowField();
        dueNoFurrow("none given", f);
        Checks.put(f, 1, 1, 1);
        Checks.due("one", f.furrows(), 1);
        f.away(0);
        dueNoFurrow("all away", f);
        f.undo();
        Checks.due("there again", f.furrows(), 1);
        FurrowField undone = Checks.field(1, 1, 1);
        undone.undo();
        dueNoFurrow("undone", undone);
    }

    private static void dueNoFurrow(String when, FurrowField f) {
        Checks.due(when + ": furrows()", f.furrows(), STATE);
        Checks.due(when + ": furrow(0)", f.furrow(0), STATE);
        Checks.due(when + ": furrow(MAX)", f.furrow(MAX), STATE);
        Checks.due(when + ": furrow(-1)", f.furrow(-1), BAD);
        Checks.dueLine(when + ": stays", f, 0, 1, 0);
    }

    /** "Where all PLANTS stand at one place x, y: the one FURROW is 0, 1, -y." */
    private static void furrowsOfOnePlace() {
        for (int y : new int[] {-300, -1, 0, 1, 300}) {
            for (int n : new int[] {1, 2, 40}) {
                FurrowField f = new FurrowField();
                f.bed(0, 0, 2);
                f.set(0, 0, 7);
                f.set(0, 1, y);
                for (int p = 0; p < n; p++) {
                    f.plant(0, 0, p % 5);
                }
                f.line(1, 0, 0);
                Checks.due("furrows()", f.furrows(), 1);
                Checks.due("furrow(1)", f.furrow(1), 0);
                Checks.dueLine("stays", f, 1, 0, 0);
                Checks.due("furrow(0)", f.furrow(0), 1);
                Checks.dueLine("of " + n + " at 7, " + y, f, 0, 1, -y);
            }
        }
        FurrowField left = Checks.field(9, 9, 1, 4, -6, 2, 4, -6, 0);
        left.away(0);
        Checks.due("the others at one place", left.furrow(0), 1);
        Checks.dueLine("the others at one place", left, 0, 1, 6);
    }

    private static void furrowsOfTwo() {
        for (int one = 0; one < 5; one++) {
            for (int other = 0; other < 5; other++) {
                FurrowField f = Checks.field(-300, -300, one, 300, 299, other);
                Checks.due("two places", f.furrows(), 1);
                Checks.due("furrow(0)", f.furrow(0), 1);
                Checks.dueLine("two places", f, 599, -600, -300);
            }
        }
    }

    private static void furrowsOfOneLine() {
        FurrowField f = new FurrowField();
        f.bed(0, 0, 2);
        for (int p = 0; p < 40; p++) {
            f.set(0, 0, 15 * p - 300);
            f.set(0, 1, 300 - 15 * p);
            f.plant(0, 0, p % 5);
        }
        Checks.due("40 on one line", f.furrows(), 1);
        f.furrow(0);
        Checks.dueLine("40 on one line", f, 1, 1, 0);
        Checks.due("furrow(1)", f.furrow(1), 0);
    }

    /** 40 PLANTS of no colour, no three on one line: each of the 780 pairs has its FURROW. */
    private static void furrowsMost() {
        FurrowField f = new FurrowField();
        f.bed(0, 0, 2);
        for (int p = 0; p < 40; p++) {
            f.set(0, 0, p);
            f.set(0, 1, p * p % 41);
            f.plant(0, 0, 0);
        }
        Checks.due("furrows()", f.furrows(), 780);
        int[][] pairs = {{0, 0, 1}, {38, 0, 39}, {39, 1, 2}, {76, 1, 39}, {779, 38, 39}};
        for (int[] pair : pairs) {
            f.through(pair[1], pair[2]);
            int a = f.lineAt(0);
            int b = f.lineAt(1);
            int c = f.lineAt(2);
            Checks.due("furrow(" + pair[0] + ")", f.furrow(pair[0]), 1);
            Checks.dueLine("furrow(" + pair[0] + ")", f, a, b, c);
        }
        Checks.due("furrow(780)", f.furrow(780), 0);
    }

    /** "each once: by the numbers of the two (.. the first such pair of each)" */
    private static void furrowsByTheFirstPair() {
        // 0, 2, 4 stand on y = 0 (2 where 0 stands), 1, 3 on x = 9.
        FurrowField f = Checks.field(0, 0, 0, 9, 1, 0, 0, 0, 0, 9, 5, 0, 7, 0, 0);
        int[][] due = {{1, -9, 0}, {5, -9, 0}, {0, 1, 0}, {1, 0, -9}, {1, -2, -7}, {5, -2, -35}};
        Checks.due("furrows()", f.furrows(), due.length);
        for (int k = 0; k < due.length; k++) {
            Checks.due("furrow(" + k + ")", f.furrow(k), 1);
            Checks.dueLine("furrow(" + k + ")", f, due[k][0], due[k][1], due[k][2]);
        }
    }

    /** "that HALVE RED and BLUE both": a LINE with half of one on a side is one, with more is none. */
    private static void furrowsHalfAndMore() {
        FurrowField half = Checks.field(0, 0, 0, 9, 0, 0, 4, 4, 1, 4, -4, 1);
        Checks.due("half of RED on a side", half.furrows(), 6);
        half.furrow(0);
        Checks.dueLine("half of RED on either side", half, 0, 1, 0);
        FurrowField more = Checks.field(0, 0, 0, 9, 0, 0, 4, 4, 3, 4, -4, 1);
        Checks.due("those through the DOUBLE alone", more.furrows(), 3);
        more.furrow(0);
        Checks.dueLine("through the DOUBLE", more, 1, -1, 0);
        FurrowField blue = Checks.field(0, 0, 0, 9, 0, 0, 4, 4, 1, 4, -4, 1, 3, 7, 2);
        Checks.due("those through a RED and the BLUE", blue.furrows(), 2);
        blue.furrow(0);
        Checks.dueLine("the first RED", blue, 3, 1, -16);
        blue.furrow(1);
        Checks.dueLine("the other RED", blue, 11, 1, -40);
    }
}
