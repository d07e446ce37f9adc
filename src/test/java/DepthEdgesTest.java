/** Promises 22 to 28, sentence by sentence: the last good number and the first that is not, on both sides. */
public final class DepthEdgesTest {
    private static final int BAD = FurrowField.BAD, STATE = FurrowField.STATE, FULL = FurrowField.FULL;
    private static final int MIN = Integer.MIN_VALUE, MAX = Integer.MAX_VALUE, FAR = 1000000;

    public static void main(String[] args) {
        depthBounds();
        depthOfNone();
        depthOnAndBeside();
        depthOfFractions();
        depthOfAll();
        deepestNumbers();
        deepestWithoutPlants();
        deepestOfTwelve();
        deepestOfOnePlace();
        deepestOfSeveral();
        deepestInLeastTerms();
        deepestFarOff();
        layerNumbers();
        layerOnTheEdge();
        layersOfOneLine();
        layersMost();
        mostNumbers();
        mostOfNone();
        mostOfAll();
        widestNumbers();
        widestOfOnePlace();
        widestBetween();
        widestParallelOrAtRightAngles();
        widestInLeastTerms();
        countNumbers();
        countOfNone();
        countOfAll();
        statusOfEachCall();
        statusBehindRefusals();
        statusOfOtherCalls();
        lastCall();
        Checks.end();
    }

    // ---- promise 22

    /** "x, y -1000000 to 1000000, d 1 to 1000" */
    private static void depthBounds() {
        FurrowField f = Checks.field(300, -300, 3, -300, 300, 0);
        int[] good = {-FAR, -FAR + 1, 0, FAR - 1, FAR};
        for (int x : good) {
            for (int y : good) {
                Checks.due("d 1", f.depth(x, y, 1), x == 0 && y == 0 ? 1 : 0);
                Checks.due("d 1000", f.depth(x, y, 1000), x == 0 && y == 0 ? 1 : 0);
            }
        }
        for (int n : new int[] {-FAR - 1, FAR + 1, MIN, MAX}) {
            Checks.due("x " + n, f.depth(n, 0, 1), BAD);
            Checks.due("y " + n, f.depth(0, n, 1), BAD);
            Checks.due("x, y " + n, f.depth(n, n, 1000), BAD);
        }
        for (int d : new int[] {0, -1, -1000, 1001, MIN, MAX}) {
            Checks.due("d " + d, f.depth(0, 0, d), BAD);
        }
        Checks.due("where one stands, d 1", f.depth(300, -300, 1), 3);
        Checks.due("where one stands, d 1000", f.depth(300000, -300000, 1000), 3);
    }

    private static void depthOfNone() {
        FurrowField f = new FurrowField();
        Checks.due("none given", f.depth(0, 0, 1), 0);
        Checks.due("none given, BAD", f.depth(0, 0, 0), BAD);
        Checks.put(f, 0, 0, 0);
        Checks.due("one", f.depth(0, 0, 1), 1);
        Checks.due("beside one", f.depth(1, 0, 1000), 0);
        f.away(0);
        Checks.due("all away", f.depth(0, 0, 1), 0);
    }

    /** "the least sum of ALL of the PLANTS on and to one side of a LINE through it, either side" */
    private static void depthOnAndBeside() {
        FurrowField row = Checks.field(-300, -300, 0, 0, 0, 0, 300, 300, 0, 300, 300, 0);
        Checks.due("the end of one", row.depth(-300, -300, 1), 1);
        Checks.due("between one and three", row.depth(-1, -1, 1), 1);
        Checks.due("on the second", row.depth(0, 0, 1), 2);
        Checks.due("between two and two", row.depth(1, 1, 1), 2);
        Checks.due("the end of two", row.depth(300, 300, 1), 2);
        Checks.due("behind the end", row.depth(301, 301, 1), 0);
        Checks.due("beside the row", row.depth(1, 0, 1000), 0);
        FurrowField square = Checks.field(-1, -1, 3, 1, -1, 0, 1, 1, 3, -1, 1, 0);
        Checks.due("the middle of a square", square.depth(0, 0, 1), 4);
        Checks.due("a light corner", square.depth(1, -1, 1), 1);
        Checks.due("a heavy corner", square.depth(1, 1, 1), 3);
        Checks.due("on an edge", square.depth(0, 1, 1), 1);
        Checks.due("outside by little", square.depth(0, 1001, 1000), 0);
        FurrowField near = Checks.field(1, 0, 0, 0, 1, 0, -1, -1, 0);
        Checks.due("as near as can be, all around", near.depth(0, 0, 1), 1);
        FurrowField nearer = Checks.field(0, 1, 0, 1, 0, 0, -1, -1, 0, 0, 0, 3);
        Checks.due("all around a DOUBLE", nearer.depth(0, 0, 1), 4);
        Checks.due("inside by little", square.depth(0, 999, 1000), 1);
    }

    /** "of the point x / d, y / d", where the products are greatest */
    private static void depthOfFractions() {
        FurrowField f = Checks.field(-300, -299, 0, 300, 298, 0);
        Checks.due("on the row", f.depth(0, -500, 1000), 1);
        Checks.due("above the row", f.depth(0, -499, 1000), 0);
        Checks.due("below the row", f.depth(0, -501, 1000), 0);
        Checks.due("on the row, by 2", f.depth(0, -1, 2), 1);
        FurrowField three = Checks.field(-300, -300, 0, 300, -299, 0, -299, 300, 0);
        Checks.due("inside", three.depth(-299998, -299990, 1000), 1);
        Checks.due("outside", three.depth(-299998, -300000, 1000), 0);
        Checks.due("outside on the other side", three.depth(-300000, -299998, 1000), 0);
        Checks.due("on the long edge", three.depth(1, 1, 2), 1);
        Checks.due("behind the long edge", three.depth(501, 501, 1000), 0);
        Checks.due("a row far off", three.depth(FAR, -FAR, 1), 0);
        FurrowField cross = Checks.field(-300, 0, 0, 300, 0, 0, 0, -300, 0, 0, 300, 0);
        Checks.due("the crossing", cross.depth(0, 0, 999), 2);
        Checks.due("beside the crossing", cross.depth(1, 0, 1000), 1);
        Checks.due("the end", cross.depth(299700, 0, 999), 1);
        Checks.due("behind the end", cross.depth(299701, 0, 999), 0);
    }

    private static void depthOfAll() {
        FurrowField f = new FurrowField();
        f.bed(0, 0, 2);
        f.set(0, 0, -300);
        f.set(0, 1, -300);
        for (int p = 0; p < 40; p++) {
            f.plant(0, 0, 3);
        }
        Checks.due("40 DOUBLES at one place", f.depth(-300, -300, 1), 120);
        Checks.due("beside them", f.depth(-300000, -299999, 1000), 0);
    }

    // ---- promise 23

    private static void deepestNumbers() {
        FurrowField f = Checks.field(-300, 300, 3);
        Checks.dueDeepest("one", f, 3, -300, 1, 300, 1);
        for (int what : new int[] {-1, 5, MIN, MAX}) {
            Checks.due("deepest(" + what + ")", f.deepest(what), BAD);
        }
    }

    /** "STATE: there is no PLANT" */
    private static void deepestWithoutPlants() {
        FurrowField f = new FurrowField();
        FurrowField away = Checks.field(1, 1, 1);
        away.away(0);
        for (int what = 0; what < 5; what++) {
            Checks.due("none given", f.deepest(what), STATE);
            Checks.due("all away", away.deepest(what), STATE);
        }
        Checks.due("none given, BAD", f.deepest(5), BAD);
        Checks.due("all away, BAD", away.deepest(-1), BAD);
    }

    /** "FULL: more than 12 are there" */
    private static void deepestOfTwelve() {
        FurrowField f = new FurrowField();
        for (int p = 0; p < 12; p++) {
            Checks.put(f, p, p, 0);
            Checks.due("depth of " + (p + 1), f.deepest(0), (p + 2) / 2);
        }
        Checks.dueDeepest("12 in a row", f, 6, 5, 1, 5, 1);
        Checks.put(f, 12, 12, 0);
        for (int what = 0; what < 5; what++) {
            Checks.due("13: deepest(" + what + ")", f.deepest(what), FULL);
        }
        Checks.due("13, BAD", f.deepest(5), BAD);
        f.away(0);
        Checks.dueDeepest("13 given, 12 there", f, 6, 6, 1, 6, 1);
        f.undo();
        Checks.due("13 there again", f.deepest(0), FULL);
    }

    private static void deepestOfOnePlace() {
        FurrowField f = new FurrowField();
        f.bed(0, 0, 2);
        f.set(0, 0, 300);
        f.set(0, 1, -300);
        for (int p = 0; p < 12; p++) {
            f.plant(0, 0, 3);
        }
        Checks.dueDeepest("12 DOUBLES at one place", f, 36, 300, 1, -300, 1);
    }

    /** "of several that with the least x, then y" */
    private static void deepestOfSeveral() {
        Checks.dueDeepest("the least x", Checks.field(5, -9, 0, -5, 9, 0), 1, -5, 1, 9, 1);
        Checks.dueDeepest("then the least y", Checks.field(4, 300, 0, 4, -300, 0), 1, 4, 1, -300, 1);
        FurrowField row = Checks.field(300, 0, 0, -300, 0, 0, 1, 0, 0, 2, 0, 0);
        Checks.dueDeepest("of two in the middle", row, 2, 1, 1, 0, 1);
        // At -3, -1 a PLANT stands as deep as two LINES cross at -3, -3/2.
        FurrowField whole = Checks.field(0, 3, 0, -5, -1, 0, 3, -3, 0, -3, -2, 0, -3, -1, 0);
        Checks.due("a PLANT as deep", whole.depth(-3, -1, 1), 2);
        Checks.dueDeepest("a fraction below a whole y", whole, 2, -3, 1, -3, 2);
        // LINES cross as deep at -4, 1/2 as at -4, -19/4.
        FurrowField crossings = Checks.field(-4, -6, 0, 6, 5, 0, -5, -5, 0, -4, 1, 0, -1, -4, 0, -3, 6, 0);
        Checks.due("a crossing as deep", crossings.depth(-8, 1, 2), 2);
        Checks.dueDeepest("a fraction below a fraction", crossings, 2, -4, 1, -19, 4);
    }

    /** "1 the upper, 2 the lower number (above 0) of x in least terms, 3, 4 of y" */
    private static void deepestInLeastTerms() {
        FurrowField square = Checks.field(0, 0, 0, 3, 0, 0, 0, 3, 0, 3, 3, 0);
        Checks.dueDeepest("halves", square, 2, 3, 2, 3, 2);
        FurrowField below = Checks.field(0, 0, 0, -3, 0, 0, 0, -3, 0, -3, -3, 0);
        Checks.dueDeepest("halves below 0", below, 2, -3, 2, -3, 2);
        FurrowField zero = Checks.field(-2, 0, 0, 2, 0, 0, 0, -2, 0, 0, 2, 0);
        Checks.dueDeepest("0 is 0 of 1", zero, 2, 0, 1, 0, 1);
        FurrowField upright = Checks.field(0, -2, 0, 0, 2, 0, -2, 0, 0, 2, 0, 0);
        Checks.dueDeepest("the upright LINE first", upright, 2, 0, 1, 0, 1);
        FurrowField unlike = Checks.field(0, 0, 0, 6, 2, 0, 0, 2, 0, 3, 0, 0);
        Checks.dueDeepest("of unlike lower numbers", unlike, 2, 2, 1, 2, 3);
    }

    /** Crossings whose numbers go far beyond int while they are worked out. */
    private static void deepestFarOff() {
        FurrowField four = Checks.field(-300, -300, 0, 300, 299, 0, -299, 300, 0, 300, -299, 0);
        Checks.dueDeepest("four corners", four, 2, 900, 1199, 299, 1199);
        FurrowField five = Checks.field(295, -299, 0, -300, 269, 0, 296, 298, 0, -299, -295, 0, 297, 297, 0);
        Checks.dueDeepest("five", five, 2, -12127, 1161, -5122409, 690795);
        FurrowField other = Checks.field(-297, -297, 0, -296, 299, 0, 298, 300, 0, 299, 62, 0, 297, -298, 0);
        Checks.dueDeepest("five others", other, 2, 1783, 709236, 1189, 1188);
        FurrowField far = Checks.field(296, -158, 0, -102, -297, 0, -299, 298, 0, 237, -295, 0, -299, 295, 0);
        Checks.dueDeepest("near a corner", far, 2, -78818771, 264784, 77843557, 264784);
        FurrowField leastX = Checks.field(211, 281, 0, 296, -298, 0, -193, -252, 0, 1, 43, 0, -298, 271, 0);
        Checks.dueDeepest("the least x of far fractions", leastX, 2, -3222995, 142808, 2045283, 285616);
        FurrowField leastY = Checks.field(297, -113, 0, 297, -298, 0, -282, -256, 0, 298, 173, 0, 300, -202, 0);
        Checks.due("a PLANT as deep", leastY.depth(297, -113, 1), 2);
        Checks.dueDeepest("the least y of far fractions", leastY, 2, 297, 1, -19621, 97);
    }

    // ---- promise 24

    /** "How many PLANTS are in a LAYER (from 1 on). BAD: below 1." */
    private static void layerNumbers() {
        FurrowField f = new FurrowField();
        for (int layer : new int[] {0, -1, MIN}) {
            Checks.due("none given: layer(" + layer + ")", f.layer(layer), BAD);
        }
        for (int layer : new int[] {1, 2, 40, 41, MAX}) {
            Checks.due("none given: layer(" + layer + ")", f.layer(layer), 0);
        }
        Checks.put(f, 300, 300, 0);
        Checks.due("one: layer(1)", f.layer(1), 1);
        Checks.due("one: layer(2)", f.layer(2), 0);
        Checks.due("one: layer(0)", f.layer(0), BAD);
        Checks.due("one: its LAYER", f.told(0, 3), 1);
        f.away(0);
        Checks.due("all away: layer(1)", f.layer(1), 0);
        Checks.due("all away: layer(0)", f.layer(0), BAD);
    }

    /** "on the edge of the least convex figure around all (corners, places between ..)" */
    private static void layerOnTheEdge() {
        // A far triangle; one PLANT on its long edge, one a step inside, one at a corner again.
        FurrowField f = Checks.field(-300, -300, 0, 300, -300, 0, -300, 300, 0, 0, 0, 0, 0, -1, 0, 300, -300, 0);
        int[] layers = {1, 1, 1, 1, 2, 1};
        for (int p = 0; p < 6; p++) {
            Checks.due("told(" + p + ", 3)", f.told(p, 3), layers[p]);
        }
        Checks.due("layer(1)", f.layer(1), 5);
        Checks.due("layer(2)", f.layer(2), 1);
        f.move(3, 0, -1);
        Checks.due("off the edge: layer(1)", f.layer(1), 4);
        Checks.due("off the edge: layer(2)", f.layer(2), 2);
        FurrowField nearly = Checks.field(-300, -300, 0, 300, 299, 0, -299, -299, 0, 300, -300, 0);
        Checks.due("outside by one step", nearly.told(2, 3), 1);
        FurrowField within = Checks.field(-300, -300, 0, 300, 299, 0, 0, -1, 0, 300, -300, 0);
        Checks.due("inside by half a step", within.told(2, 3), 2);
        for (int up : new int[] {1, -1}) {
            FurrowField step = Checks.field(0, 0, 0, 1, 0, 0, -1, up, 0, 3, up, 0, 0, -5 * up, 0);
            Checks.due("a step from an edge", step.told(0, 3), 2);
            Checks.due("a step from an edge: layer(1)", step.layer(1), 3);
        }
    }

    /** "all, if they stand on one line" */
    private static void layersOfOneLine() {
        int[][] steps = {{15, 0}, {0, 15}, {15, 15}, {15, -15}, {0, 0}};
        for (int[] step : steps) {
            FurrowField f = new FurrowField();
            f.bed(0, 0, 2);
            for (int p = 0; p < 40; p++) {
                int at = p * 7 % 40 - 20;
                f.set(0, 0, step[0] * at);
                f.set(0, 1, step[1] * at);
                f.plant(0, 0, 0);
            }
            Checks.due("layer(1)", f.layer(1), 40);
            Checks.due("layer(2)", f.layer(2), 0);
            Checks.due("LAYERS", f.count(3), 1);
            Checks.due("one within", f.told(20, 3), 1);
        }
        FurrowField inner = Checks.field(-9, -9, 0, 9, -9, 0, -9, 9, 0, 9, 9, 0, -1, 0, 0, 0, 0, 0, 1, 0, 0, 0, 0, 0);
        Checks.due("four on one line within a square", inner.layer(2), 4);
        Checks.due("LAYERS", inner.count(3), 2);
    }

    /** Three in each LAYER, and one alone within: as many LAYERS as 40 PLANTS can have. */
    private static void layersMost() {
        FurrowField f = new FurrowField();
        f.bed(0, 0, 2);
        for (int p = 0; p < 39; p++) {
            int r = 300 - 20 * (p / 3);
            f.set(0, 0, p % 3 == 0 ? 0 : p % 3 == 1 ? r : -r);
            f.set(0, 1, p % 3 == 0 ? r : -r);
            f.plant(0, 0, 0);
        }
        f.set(0, 0, 0);
        f.set(0, 1, 0);
        f.plant(0, 0, 0);
        Checks.due("LAYERS", f.count(3), 14);
        for (int layer = 1; layer <= 13; layer++) {
            Checks.due("layer(" + layer + ")", f.layer(layer), 3);
            Checks.due("one of it", f.told(3 * layer - 1, 3), layer);
        }
        Checks.due("layer(14)", f.layer(14), 1);
        Checks.due("layer(15)", f.layer(15), 0);
        Checks.due("the one within", f.told(39, 3), 14);
    }

    // ---- promise 25

    private static void mostNumbers() {
        FurrowField f = Checks.field(0, 0, 0, 1, 1, 0, 2, 2, 0, 0, 5, 0);
        for (int most : new int[] {-1, 2, MIN, MAX}) {
            Checks.due("most(" + most + ")", f.most(most), BAD);
            Checks.due("none given: most(" + most + ")", new FurrowField().most(most), BAD);
        }
        Checks.due("most(0)", f.most(0), 2);
        Checks.due("most(1)", f.most(1), 3);
    }

    /** "0: there is none" */
    private static void mostOfNone() {
        FurrowField f = new FurrowField();
        dueMost("none given", f, 0, 0);
        Checks.put(f, 5, 5, 0);
        dueMost("one", f, 0, 0);
        Checks.put(f, 5, 5, 3);
        dueMost("two at one place", f, 0, 0);
        Checks.put(f, 5, 6, 0);
        dueMost("two places, one of two", f, 3, 3);
        f.away(2);
        dueMost("one place again", f, 0, 0);
        f.away(0);
        f.away(1);
        dueMost("all away", f, 0, 0);
    }

    private static void dueMost(String when, FurrowField f, int most, int least) {
        Checks.due(when + ": most(1)", f.most(1), most);
        Checks.due(when + ": most(0)", f.most(0), least);
    }

    private static void mostOfAll() {
        FurrowField line = new FurrowField();
        FurrowField none = new FurrowField();
        line.bed(0, 0, 2);
        none.bed(0, 0, 2);
        for (int p = 0; p < 40; p++) {
            line.set(0, 0, 15 * p - 300);
            line.plant(0, 0, 3);
            none.set(0, 0, p);
            none.set(0, 1, p * p % 41);
            none.plant(0, 0, 3);
        }
        dueMost("40 on one LINE, each once though a DOUBLE", line, 40, 40);
        dueMost("no three on one LINE", none, 2, 2);
        line.move(39, 0, 1);
        dueMost("39 on one LINE", line, 39, 2);
    }

    // ---- promise 26

    private static void widestNumbers() {
        FurrowField f = Checks.field(0, 0, 0, 0, 7, 0);
        for (int what : new int[] {-1, 2, MIN, MAX}) {
            Checks.due("widest(" + what + ")", f.widest(what), BAD);
            Checks.due("none given: widest(" + what + ")", new FurrowField().widest(what), BAD);
        }
        dueWidest("two", f, 49, 1);
    }

    private static void dueWidest(String when, FurrowField f, long upper, long lower) {
        Checks.due(when + ": widest(0)", f.widest(0), upper);
        Checks.due(when + ": widest(1)", f.widest(1), lower);
    }

    /** "STATE: there are no two PLANTS at unlike places." */
    private static void widestOfOnePlace() {
        FurrowField f = new FurrowField();
        dueWidest("none given", f, STATE, STATE);
        Checks.put(f, 5, 5, 0);
        dueWidest("one", f, STATE, STATE);
        Checks.put(f, 5, 5, 0);
        dueWidest("two at one place", f, STATE, STATE);
        Checks.put(f, 5, 6, 0);
        dueWidest("two places", f, 1, 1);
        f.away(2);
        dueWidest("one place again", f, STATE, STATE);
        f.away(1);
        f.away(0);
        dueWidest("all away", f, STATE, STATE);
    }

    /** "no PLANT between them" */
    private static void widestBetween() {
        FurrowField f = Checks.field(-300, 0, 0, 300, 0, 0);
        dueWidest("as wide as the field", f, 360000, 1);
        Checks.put(f, 299, 0, 0);
        dueWidest("one a step within", f, 599 * 599, 1);
        Checks.put(f, 0, 0, 0);
        dueWidest("one between", f, 90000, 1);
        Checks.put(f, 0, 0, 0);
        dueWidest("one more at its place", f, 90000, 1);
    }

    /** "whose LINES are parallel, or at right angles, to a LINE through two PLANTS at unlike places" */
    private static void widestParallelOrAtRightAngles() {
        FurrowField corners = Checks.field(-300, -300, 0, 300, 300, 0);
        dueWidest("at right angles", corners, 720000, 1);
        FurrowField rows = Checks.field(0, 0, 0, 2, 0, 0, 4, 0, 0, 1, 20, 0, 3, 20, 0, 5, 20, 0);
        dueWidest("parallel", rows, 400, 1);
        // Strips parallel to an edge are 300 wide; a slanted one would be wider, but no LINE has its slant.
        FurrowField square = Checks.field(0, 0, 0, 300, 0, 0, 0, 300, 0, 300, 300, 0);
        dueWidest("a square", square, 90000, 1);
    }

    /** "told by its square, a fraction in least terms", where the products are greatest */
    private static void widestInLeastTerms() {
        FurrowField two = Checks.field(-300, -300, 0, 300, 299, 0);
        dueWidest("two", two, 718801, 1);
        FurrowField four = Checks.field(-300, -300, 0, 300, 299, 0, -299, 300, 0, 300, -299, 0);
        dueWidest("four corners", four, 129169078801L, 360001);
        FurrowField five = Checks.field(299, 300, 0, 298, -300, 0, -299, 298, 0, -300, -295, 0, -94, 8, 0);
        dueWidest("five", five, 128741028025L, 712826);
        FurrowField other = Checks.field(-98, -299, 0, 299, -300, 0, -298, 299, 0, -297, 31, 0, 297, 295, 0);
        dueWidest("five others", other, 125328036289L, 715210);
        FurrowField close = Checks.field(-2, -5, 0, -8, 0, 0, 2, 0, 0, -4, -2, 0, -8, 3, 0, -1, 3, 0);
        dueWidest("1225 of 41, not 729 of 25", close, 1225, 41);
        FurrowField least = Checks.field(0, 0, 0, 1, 2, 0, 3, 1, 0);
        dueWidest("100 of 20", least, 5, 1);
    }

    // ---- promise 27

    private static void countNumbers() {
        FurrowField f = Checks.field(0, 0, 0);
        for (int what : new int[] {-1, 7, MIN, MAX}) {
            Checks.due("count(" + what + ")", f.count(what), BAD);
        }
        Checks.due("count(0)", f.count(0), 1);
        Checks.due("count(6)", f.count(6), 1);
    }

    private static void countOfNone() {
        FurrowField f = new FurrowField();
        dueCounts("new", f, 0, 0, 0, 0, 0, 0, 0);
        Checks.put(f, 1, 1, 3);
        f.away(0);
        dueCounts("one away", f, 0, 1, 0, 0, 0, 0, 0);
        f.undo();
        dueCounts("there again", f, 1, 1, 0, 1, 2, 0, 3);
        FurrowField undone = Checks.field(1, 1, 3);
        undone.undo();
        dueCounts("undone", undone, 0, 0, 0, 0, 0, 0, 0);
    }

    private static void dueCounts(String when, FurrowField f, int... due) {
        for (int what = 0; what < due.length; what++) {
            Checks.due(when + ": count(" + what + ")", f.count(what), due[what]);
        }
    }

    private static void countOfAll() {
        for (int kind = 0; kind < 5; kind++) {
            FurrowField f = new FurrowField();
            for (int bed = 0; bed < 8; bed++) {
                f.bed(bed, 0, 2);
            }
            for (int p = 0; p < 40; p++) {
                f.plant(p % 8, 0, kind);
            }
            int red = kind == 1 ? 40 : kind == 3 ? 80 : 0;
            dueCounts("40 of KIND " + kind, f, 40, 40, 8, 1, red, kind == 2 ? 40 : 0, kind == 3 ? 120 : 40);
            f.drop(7);
            f.away(0);
            Checks.due("BEDS", f.count(2), 7);
            Checks.due("there", f.count(0), 39);
            Checks.due("given", f.count(1), 40);
        }
    }

    // ---- promise 28

    /** A field with a FINDING of SIZE behind it; PLANT 1 is AWAY, 2 is DOUBTFUL, BED 5 is missing. */
    private static FurrowField found() {
        FurrowField f = Checks.field(0, 0, 0, 1, 1, 1, 2, 3, 4);
        f.bed(0, 1, 4);
        f.bed(1, 2, 4);
        f.away(1);
        f.bed(0, 0, -1);
        Checks.due("status() ahead", f.status(), 4);
        return f;
    }

    private static void dueStatus(String call, FurrowField f, long answer, long due, int status) {
        Checks.due(call, answer, due);
        Checks.due("status() behind " + call, f.status(), status);
        Checks.due("status() once more behind " + call, f.status(), status);
    }

    /** "the number of its FINDING; 0: it had none" */
    private static void statusOfEachCall() {
        FurrowField f = found();
        dueStatus("bed", f, f.bed(2, 0, 0), 0, 0);
        dueStatus("bed, SIZE", f, f.bed(2, 0, -1), Checks.SIZE, 4);
        dueStatus("set", f, f.set(0, 0, -9), -9, 0);
        dueStatus("set, NULL", f, f.set(5, 0, 1), Checks.NULL, 1);
        dueStatus("set, PLACE", f, f.set(0, 4, 1), Checks.PLACE, 2);
        dueStatus("drop", f, f.drop(2), 0, 0);
        dueStatus("drop, NULL", f, f.drop(2), Checks.NULL, 1);
        dueStatus("copy", f, f.copy(0, 0, 0, 1, 3), 3, 0);
        dueStatus("copy, NULL", f, f.copy(0, 0, 5, 0, 1), Checks.NULL, 1);
        dueStatus("copy, STORE", f, f.copy(0, 0, 1, 0, 1), Checks.STORE, 5);
        dueStatus("copy, PLACE", f, f.copy(0, 0, 0, 1, 4), Checks.PLACE, 2);
        dueStatus("plant", f, f.plant(1, 0, 0), 3, 0);
        dueStatus("plant, NULL", f, f.plant(5, 0, 0), Checks.NULL, 1);
        dueStatus("plant, PLACE", f, f.plant(1, 3, 0), Checks.PLACE, 2);
        dueStatus("move", f, f.move(3, 1, 1), 1, 0);
        dueStatus("move, NULL", f, f.move(1, 1, 1), Checks.NULL, 1);
        dueStatus("away", f, f.away(3), 2, 0);
        dueStatus("away, NULL", f, f.away(3), Checks.NULL, 1);
        dueStatus("colour", f, f.colour(2, 1), 0, 0);
        dueStatus("colour, KIND", f, f.colour(0, 1), Checks.KIND, 3);
        dueStatus("colour, NULL", f, f.colour(1, 1), Checks.NULL, 1);
        for (int what = 0; what < 4; what++) {
            dueStatus("told, NULL", f, f.told(1, what), Checks.NULL, 1);
            dueStatus("told", f, f.told(2, what), new int[] {2, 3, 4, 1}[what], 0);
            dueStatus("ask, NULL", f, f.ask(1, what), Checks.NULL, 1);
            dueStatus("ask", f, f.ask(2, what), new int[] {1, 0, 1, 1}[what], 0);
        }
        dueStatus("is, NULL", f, f.is(1, 0), Checks.NULL, 1);
        dueStatus("is", f, f.is(2, 1), 0, 0);
        dueStatus("through, NULL", f, f.through(0, 1), Checks.NULL, 1);
        dueStatus("through", f, f.through(0, 2), 1, 0);
    }

    /** "that was not BAD, STATE, FULL" */
    private static void statusBehindRefusals() {
        FurrowField f = found();
        f.set(1, 0, 301);
        f.bed(0, 0, -1);
        dueStatus("bed, BAD", f, f.bed(0, 0, 101), BAD, 4);
        dueStatus("set, BAD", f, f.set(8, 0, 1), BAD, 4);
        dueStatus("drop, BAD", f, f.drop(8), BAD, 4);
        dueStatus("copy, BAD", f, f.copy(0, 0, 8, 0, 1), BAD, 4);
        dueStatus("plant, BAD", f, f.plant(0, 0, 5), BAD, 4);
        dueStatus("plant, then BAD", f, f.plant(1, 0, 0), BAD, 4);
        dueStatus("move, BAD", f, f.move(3, 0, 0), BAD, 4);
        dueStatus("move, then BAD", f, f.move(0, 301, 0), BAD, 4);
        dueStatus("away, BAD", f, f.away(3), BAD, 4);
        dueStatus("colour, BAD", f, f.colour(2, 3), BAD, 4);
        dueStatus("told, BAD", f, f.told(0, 4), BAD, 4);
        dueStatus("is, BAD", f, f.is(0, 5), BAD, 4);
        dueStatus("ask, BAD", f, f.ask(0, 4), BAD, 4);
        dueStatus("through, BAD", f, f.through(0, 3), BAD, 4);
        dueStatus("through, STATE", f, f.through(0, 0), STATE, 4);
        for (int p = 3; p < 40; p++) {
            f.plant(0, 0, 0);
        }
        f.bed(0, 0, -1);
        dueStatus("plant, FULL", f, f.plant(0, 0, 0), FULL, 4);
    }

    /** The calls that are not named there, whatever they answer. */
    private static void statusOfOtherCalls() {
        FurrowField f = found();
        dueStatus("undo", f, f.undo(), 1, 4);
        dueStatus("undo, STATE", f, f.undo(), STATE, 4);
        dueStatus("trace", f, f.trace(0), FurrowField.NONE, 4);
        dueStatus("line", f, f.line(0, 1, 0), 1, 4);
        dueStatus("line, STATE", f, f.line(0, 0, 0), STATE, 4);
        dueStatus("line, BAD", f, f.line(MAX, 0, 0), BAD, 4);
        dueStatus("lineAt", f, f.lineAt(0), 0, 4);
        dueStatus("lineAt, BAD", f, f.lineAt(3), BAD, 4);
        dueStatus("side", f, f.side(0, 0), 1, 4);
        dueStatus("side, BAD", f, f.side(0, 3), BAD, 4);
        dueStatus("halves", f, f.halves(1), 1, 4);
        dueStatus("halves, BAD", f, f.halves(3), BAD, 4);
        dueStatus("furrow", f, f.furrow(0), 1, 4);
        dueStatus("furrow, BAD", f, f.furrow(-1), BAD, 4);
        dueStatus("furrow, none", f, f.furrow(MAX), 0, 4);
        dueStatus("furrows", f, f.furrows(), 2, 4);
        dueStatus("depth", f, f.depth(0, 0, 1), 1, 4);
        dueStatus("depth, BAD", f, f.depth(0, 0, 0), BAD, 4);
        dueStatus("deepest", f, f.deepest(0), 1, 4);
        dueStatus("deepest, BAD", f, f.deepest(5), BAD, 4);
        dueStatus("layer", f, f.layer(1), 3, 4);
        dueStatus("layer, BAD", f, f.layer(0), BAD, 4);
        dueStatus("most", f, f.most(1), 2, 4);
        dueStatus("most, BAD", f, f.most(2), BAD, 4);
        dueStatus("widest", f, f.widest(1), 1, 4);
        dueStatus("widest, BAD", f, f.widest(2), BAD, 4);
        for (int what = 0; what < 7; what++) {
            dueStatus("count", f, f.count(what), new int[] {3, 3, 2, 1, 1, 0, 3}[what], 4);
        }
        dueStatus("count, BAD", f, f.count(7), BAD, 4);
        dueStatus("none", new FurrowField(), 0, 0, 0);
    }

    /** "at most 512 calls": the last of them is answered as the first. */
    private static void lastCall() {
        FurrowField f = new FurrowField();
        f.bed(0, 0, 2);
        for (int calls = 2; calls <= 509; calls += 2) {
            Checks.due("plant, call " + calls, f.plant(0, 0, 3), 0);
            Checks.due("undo, call " + (calls + 1), f.undo(), 1);
        }
        Checks.due("call 510", f.plant(0, 0, 3), 0);
        Checks.due("call 511", f.ask(0, 3), 30);
        Checks.due("call 512", f.trace(5), 20);
    }
}
