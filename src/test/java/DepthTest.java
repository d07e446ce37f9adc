/** Promises 22 to 27: depth, deepest, layer, most, widest, count. */
public final class DepthTest {
    private static final int BAD = FurrowField.BAD, STATE = FurrowField.STATE, FULL = FurrowField.FULL;

    public static void main(String[] args) {
        depth();
        depthOfFractions();
        deepest();
        deepestRefused();
        layer();
        most();
        widest();
        count();
        changesAreSeen();
        Checks.end();
    }

    private static void depth() {
        FurrowField f = Checks.field(0, 0, 0, 4, 0, 3, 0, 4, 1, 4, 4, 2, 2, 2, 4);
        Checks.due("the middle", f.depth(2, 2, 1), 3);
        Checks.due("a corner", f.depth(0, 0, 1), 1);
        Checks.due("the corner of the double", f.depth(4, 0, 1), 3);
        Checks.due("on an edge", f.depth(2, 0, 1), 1);
        Checks.due("outside", f.depth(5, 0, 1), 0);
        Checks.due("far outside", f.depth(-1000000, 1000000, 1), 0);
        Checks.due("none", new FurrowField().depth(0, 0, 1), 0);
        FurrowField row = Checks.field(0, 0, 0, 1, 1, 0, 2, 2, 0, 2, 2, 3, 7, 7, 0);
        Checks.due("in a row", row.depth(2, 2, 1), 5);
        Checks.due("in a row, between", row.depth(3, 3, 2), 2);
        Checks.due("beside a row", row.depth(2, 1, 1), 0);
        Checks.due("behind a row", row.depth(8, 8, 1), 0);
        row.away(3);
        Checks.due("in a row, the double away", row.depth(2, 2, 1), 2);
    }

    private static void depthOfFractions() {
        FurrowField f = Checks.field(0, 0, 0, 1, 0, 0, 0, 1, 0);
        Checks.due("inside", f.depth(333, 333, 1000), 1);
        Checks.due("on the edge", f.depth(500, 500, 1000), 1);
        Checks.due("just outside", f.depth(500, 501, 1000), 0);
        Checks.due("just below", f.depth(500, -1, 1000), 0);
        Checks.due("1 of 2 twice", f.depth(1, 1, 2), 1);
        Checks.due("d 0", f.depth(0, 0, 0), BAD);
        Checks.due("d below", f.depth(0, 0, -1), BAD);
        Checks.due("d 1001", f.depth(0, 0, 1001), BAD);
        Checks.due("x beyond", f.depth(1000001, 0, 1), BAD);
        Checks.due("x beyond below", f.depth(-1000001, 0, 1), BAD);
        Checks.due("y beyond", f.depth(0, 1000001, 1000), BAD);
        Checks.due("y beyond below", f.depth(0, Integer.MIN_VALUE, 1000), BAD);
        FurrowField far = Checks.field(300, 300, 0, -300, -300, 0, 300, -300, 0, -300, 300, 0);
        Checks.due("far fractions", far.depth(-299999, 299999, 1000), 1);
        Checks.due("far fractions, the edge", far.depth(300000, 1, 1000), 1);
        Checks.due("far fractions, beyond", far.depth(300001, 1, 1000), 0);
        Checks.due("far, the middle", far.depth(0, 0, 1000), 2);
    }

    private static void deepest() {
        FurrowField square = Checks.field(0, 0, 0, 3, 0, 0, 0, 3, 0, 3, 3, 0);
        Checks.dueDeepest("a crossing", square, 2, 3, 2, 3, 2);
        FurrowField one = Checks.field(-5, 6, 3);
        Checks.dueDeepest("one", one, 3, -5, 1, 6, 1);
        FurrowField tie = Checks.field(2, 0, 0, -2, 1, 0, -2, -1, 0);
        Checks.dueDeepest("the least x, then y", tie, 1, -2, 1, -1, 1);
        FurrowField row = Checks.field(0, 0, 0, 3, 3, 0, 1, 1, 0, 2, 2, 0);
        Checks.dueDeepest("a row", row, 2, 1, 1, 1, 1);
        FurrowField kite = Checks.field(-1, 0, 0, 6, 0, 0, 0, 1, 0, -3, -5, 0);
        Checks.dueDeepest("the lower numbers are above 0", kite, 2, -1, 2, 0, 1);
        kite.away(3);
        Checks.dueDeepest("anew behind a change", kite, 1, -1, 1, 0, 1);
        FurrowField skew = Checks.field(-5, 0, 0, 5, 4, 0, 2, 2, 0, -5, -5, 0, -4, 5, 0);
        Checks.dueDeepest("x and y of unlike lower numbers", skew, 2, -305, 68, 5, 34);
        FurrowField heavy = Checks.field(0, 0, 3, 9, 0, 0, 0, 9, 0, 9, 9, 0);
        Checks.dueDeepest("a double outweighs", heavy, 3, 0, 1, 0, 1);
        heavy.colour(0, 1);
        Checks.due("refused behind", heavy.deepest(5), BAD);
    }

    private static void deepestRefused() {
        FurrowField f = new FurrowField();
        Checks.due("none: deepest(0)", f.deepest(0), STATE);
        Checks.due("none: deepest(5)", f.deepest(5), BAD);
        Checks.due("none: deepest(-1)", f.deepest(-1), BAD);
        for (int i = 0; i < 13; i++) {
            Checks.put(f, i, i * i, 0);
        }
        Checks.due("13: deepest(0)", f.deepest(0), FULL);
        Checks.due("13: deepest(5)", f.deepest(5), BAD);
        f.away(5);
        Checks.isTrue("12 are not too many", f.deepest(0) > 0);
        for (int i = 0; i < 13; i++) {
            f.away(i);
        }
        Checks.due("all away", f.deepest(0), STATE);
    }

    private static void layer() {
        FurrowField f = Checks.field(0, 0, 0, 8, 0, 0, 0, 8, 0, 8, 8, 0, 4, 0, 0, 2, 2, 0, 3, 2, 0,
            2, 3, 0, 0, 0, 0);
        Checks.due("corners, a place between, one place twice", f.layer(1), 6);
        Checks.due("the inner ones", f.layer(2), 3);
        Checks.due("no third", f.layer(3), 0);
        Checks.due("layer(MAX)", f.layer(Integer.MAX_VALUE), 0);
        Checks.due("layer(0)", f.layer(0), BAD);
        Checks.due("layer(-1)", f.layer(-1), BAD);
        Checks.due("count(3)", f.count(3), 2);
        Checks.due("told(4, 3)", f.told(4, 3), 1);
        Checks.due("told(6, 3)", f.told(6, 3), 2);
        Checks.due("told(8, 3)", f.told(8, 3), 1);
        f.away(1);
        Checks.due("without one corner", f.layer(1), 5);
        Checks.due("without one corner: 2", f.layer(2), 3);
        Checks.due("told(6, 3) behind one away", f.told(6, 3), 2);
        for (int i = 2; i < 9; i++) {
            f.away(i);
        }
        Checks.due("one left", f.layer(1), 1);
        Checks.due("none behind it", f.layer(2), 0);
        f.away(0);
        Checks.due("none left", f.layer(1), 0);
        Checks.due("none left: count(3)", f.count(3), 0);
        FurrowField row = Checks.field(0, 0, 0, 3, 3, 0, 1, 1, 0, 2, 2, 0);
        Checks.due("all on one line", row.layer(1), 4);
        FurrowField nested = new FurrowField();
        for (int r = 10; r > 0; r--) {
            Checks.put(nested, r, r, 0);
            Checks.put(nested, -r, r, 0);
            Checks.put(nested, r, -r, 0);
            Checks.put(nested, -r, -r, 0);
        }
        Checks.due("ten squares", nested.count(3), 10);
        Checks.due("the innermost", nested.layer(10), 4);
        Checks.due("told(39, 3)", nested.told(39, 3), 10);
        Checks.due("told(0, 3)", nested.told(0, 3), 1);
    }

    private static void most() {
        FurrowField f = Checks.field(0, 0, 0, 1, 1, 0, 2, 2, 0, 2, 2, 1, 5, 0, 2);
        Checks.due("most(1)", f.most(1), 4);
        Checks.due("most(0)", f.most(0), 2);
        f.away(4);
        Checks.due("one line: most(1)", f.most(1), 4);
        Checks.due("one line: most(0)", f.most(0), 4);
        f.away(0);
        f.away(1);
        Checks.due("one place: most(1)", f.most(1), 0);
        Checks.due("one place: most(0)", f.most(0), 0);
        Checks.due("most(2)", f.most(2), BAD);
        Checks.due("most(-1)", f.most(-1), BAD);
    }

    private static void widest() {
        FurrowField two = Checks.field(0, 0, 0, 3, 1, 0);
        dueWidest("two", two, 10, 1);
        FurrowField right = Checks.field(0, 0, 0, 3, 0, 0, 0, 4, 0);
        dueWidest("right angles", right, 16, 1);
        FurrowField skew = Checks.field(0, 0, 0, 1, 2, 0, 3, 1, 0);
        dueWidest("10 squared by 20, in least terms", skew, 5, 1);
        FurrowField fraction = Checks.field(-4, -2, 0, 4, -2, 0, 3, 1, 0, 4, -1, 0, 1, 4, 0);
        dueWidest("a fraction", fraction, 256, 5);
        FurrowField rows = Checks.field(0, 0, 0, 2, 0, 0, 4, 0, 0, 1, 20, 0, 3, 20, 0, 5, 20, 0);
        dueWidest("parallel to a line, at right angles to none", rows, 400, 1);
        FurrowField between = Checks.field(0, 0, 0, 1, 0, 0, 2, 0, 0, 3, 0, 0);
        dueWidest("plants between", between, 1, 1);
        FurrowField far = Checks.field(-300, -300, 0, 300, 299, 0);
        dueWidest("far", far, 600 * 600 + 599 * 599, 1);
        Checks.due("widest(2)", far.widest(2), BAD);
        Checks.due("widest(-1)", far.widest(-1), BAD);
        far.away(1);
        Checks.due("one place", far.widest(0), STATE);
        Checks.due("one place, BAD", far.widest(2), BAD);
        Checks.due("none", new FurrowField().widest(1), STATE);
    }

    private static void dueWidest(String when, FurrowField f, long upper, long lower) {
        Checks.due(when + ": widest(0)", f.widest(0), upper);
        Checks.due(when + ": widest(1)", f.widest(1), lower);
    }

    private static void count() {
        FurrowField f = Checks.field(0, 0, 0, 1, 1, 1, 2, 2, 2, 3, 3, 3, 4, 5, 4);
        f.bed(0, 0, 1);
        f.bed(4, 0, 1);
        int[] due = {5, 5, 2, 1, 3, 1, 7};
        for (int what = 0; what < 7; what++) {
            Checks.due("count(" + what + ")", f.count(what), due[what]);
        }
        f.colour(4, 2);
        Checks.due("blue by colour", f.count(5), 2);
        f.away(3);
        Checks.due("red without the double", f.count(4), 1);
        Checks.due("all without the double", f.count(6), 4);
        Checks.due("there without the double", f.count(0), 4);
        Checks.due("given", f.count(1), 5);
        Checks.due("count(7)", f.count(7), BAD);
        Checks.due("count(-1)", f.count(-1), BAD);
    }

    /** What was worked out ahead of a change must not be answered behind it. */
    private static void changesAreSeen() {
        int[] first = {0, 0, 3, 8, 0, 1, 0, 8, 2, 3, 3, 4};
        int[] moved = {0, 0, 3, 8, 0, 1, 0, 8, 2, 9, 7, 4};
        int[] more = {0, 0, 3, 8, 0, 1, 0, 8, 2, 3, 3, 4, 8, 8, 1};
        int[] fewer = {8, 0, 1, 0, 8, 2, 3, 3, 4};
        FurrowField f = Checks.field(first);
        dueAlike("at first", f, Checks.field(first));
        f.move(3, 6, 4);
        dueAlike("move", f, Checks.field(moved));
        f.undo();
        dueAlike("undo of move", f, Checks.field(first));
        Checks.put(f, 8, 8, 1);
        dueAlike("plant", f, Checks.field(more));
        f.undo();
        dueAlike("undo of plant", f, Checks.field(first));
        f.away(0);
        dueAlike("away", f, Checks.field(fewer));
        f.undo();
        dueAlike("undo of away", f, Checks.field(first));
        f.colour(3, 2);
        FurrowField coloured = Checks.field(first);
        coloured.colour(3, 2);
        dueAlike("colour", f, coloured);
        f.undo();
        dueAlike("undo of colour", f, Checks.field(first));
    }

    private static void dueAlike(String when, FurrowField f, FurrowField g) {
        Checks.due(when + ": furrows()", f.furrows(), g.furrows());
        Checks.due(when + ": depth(4, 4, 1)", f.depth(4, 4, 1), g.depth(4, 4, 1));
        Checks.due(when + ": halves(1)", f.halves(1), g.halves(1));
        Checks.due(when + ": layer(1)", f.layer(1), g.layer(1));
        for (int what = 0; what < 5; what++) {
            Checks.due(when + ": deepest(" + what + ")", f.deepest(what), g.deepest(what));
        }
        for (int what = 0; what < 2; what++) {
            Checks.due(when + ": widest(" + what + ")", f.widest(what), g.widest(what));
            Checks.due(when + ": most(" + what + ")", f.most(what), g.most(what));
        }
        for (int what = 3; what < 7; what++) {
            Checks.due(when + ": count(" + what + ")", f.count(what), g.count(what));
        }
    }
}
