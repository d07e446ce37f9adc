/** Promises 15 to 21: line, through, lineAt, side, halves, furrow, furrows. */
public final class LineTest {
    private static final int BAD = FurrowField.BAD, STATE = FurrowField.STATE;

    public static void main(String[] args) {
        line();
        through();
        lineAt();
        side();
        halves();
        furrowsInOrder();
        furrowsOfOnePlace();
        furrowsRefused();
        furrowsOfBothColours();
        Checks.end();
    }

    private static void line() {
        FurrowField f = new FurrowField();
        Checks.due("line(-4, 6, 10)", f.line(-4, 6, 10), 1);
        Checks.dueLine("least terms, the sign stays", f, -2, 3, 5);
        Checks.due("line(1000000, -1000000, 1000000)", f.line(1000000, -1000000, 1000000), 1);
        Checks.dueLine("far", f, 1, -1, 1);
        Checks.due("line(0, -7, 0)", f.line(0, -7, 0), 1);
        Checks.dueLine("zeros", f, 0, -1, 0);
        Checks.due("line(6, 10, 15)", f.line(6, 10, 15), 1);
        Checks.dueLine("no divisor of all three", f, 6, 10, 15);
        Checks.due("a beyond", f.line(-1000001, 1, 1), BAD);
        Checks.due("b beyond", f.line(1, 1000001, 1), BAD);
        Checks.due("c beyond", f.line(1, 1, -1000001), BAD);
        Checks.due("c MIN", f.line(0, 0, Integer.MIN_VALUE), BAD);
        Checks.due("a, b 0", f.line(0, 0, 5), STATE);
        Checks.due("all 0", f.line(0, 0, 0), STATE);
        Checks.dueLine("stays", f, 6, 10, 15);
    }

    private static void through() {
        FurrowField f = Checks.field(0, 0, 0, 6, 4, 0, -3, 5, 0, 9, 5, 0, 6, 4, 1, 6, 9, 1);
        Checks.due("through(0, 1)", f.through(0, 1), 1);
        Checks.dueLine("through(0, 1)", f, 2, -3, 0);
        Checks.due("through(1, 0)", f.through(1, 0), 1);
        Checks.dueLine("through(1, 0)", f, 2, -3, 0);
        Checks.due("level", f.through(3, 2), 1);
        Checks.dueLine("level", f, 0, 1, -5);
        Checks.due("upright", f.through(5, 4), 1);
        Checks.dueLine("upright", f, 1, 0, -6);
        Checks.due("one place", f.through(1, 4), STATE);
        Checks.due("itself", f.through(2, 2), STATE);
        Checks.due("no such", f.through(0, 6), BAD);
        Checks.due("no such below", f.through(-1, 0), BAD);
        f.away(4);
        Checks.due("one away", f.through(1, 4), Checks.NULL);
        Checks.due("the other away", f.through(4, 1), Checks.NULL);
        Checks.due("one away twice", f.through(4, 4), Checks.NULL);
        Checks.due("one away, no such", f.through(4, 6), BAD);
        Checks.dueLine("stays", f, 1, 0, -6);
    }

    private static void lineAt() {
        FurrowField f = new FurrowField();
        f.line(7, 11, 13);
        Checks.dueLine("lineAt", f, 7, 11, 13);
        Checks.due("lineAt(-1)", f.lineAt(-1), BAD);
        Checks.due("lineAt(3)", f.lineAt(3), BAD);
    }

    private static void side() {
        FurrowField f = Checks.field(1, 0, 3, 0, 5, 1, -1, 0, 2, -2, 1, 0, 0, -5, 4);
        f.line(1, 0, 0);
        dueSides("x", f, 0, 2, 1, 0);
        dueSides("x", f, 1, 0, 0, 1);
        dueSides("x", f, 2, 3, 2, 2);
        f.line(-1, 0, 0);
        dueSides("-x", f, 2, 2, 2, 3);
        f.colour(4, 2);
        dueSides("coloured", f, 1, 1, 1, 0);
        f.away(0);
        dueSides("one away", f, 0, 0, 1, 0);
        Checks.due("side(3, 0)", f.side(3, 0), BAD);
        Checks.due("side(-1, 0)", f.side(-1, 0), BAD);
        Checks.due("side(0, 3)", f.side(0, 3), BAD);
        Checks.due("side(0, -1)", f.side(0, -1), BAD);
        FurrowField far = Checks.field(300, 300, 0, -300, -300, 0);
        far.line(1000000, 999999, 1000000);
        dueSides("far", far, 2, 1, 0, 1);
    }

    private static void dueSides(String when, FurrowField f, int count, int left, int on, int right) {
        Checks.due(when + ": side(" + count + ", 0)", f.side(count, 0), left);
        Checks.due(when + ": side(" + count + ", 1)", f.side(count, 1), on);
        Checks.due(when + ": side(" + count + ", 2)", f.side(count, 2), right);
    }

    private static void halves() {
        FurrowField f = Checks.field(-1, 0, 1, 1, 0, 1, 2, 0, 2, 0, 9, 2, 3, 0, 2);
        f.line(1, 0, 0);
        Checks.due("one red on either side", f.halves(0), 1);
        Checks.due("two of three blue left", f.halves(1), 0);
        Checks.due("three of five left", f.halves(2), 0);
        f.line(-1, 0, 0);
        Checks.due("two of three blue right", f.halves(1), 0);
        f.line(1, 0, -2);
        Checks.due("one of three on either side", f.halves(1), 1);
        Checks.due("two reds right", f.halves(0), 0);
        Checks.due("halves(3)", f.halves(3), BAD);
        Checks.due("halves(-1)", f.halves(-1), BAD);
        FurrowField none = new FurrowField();
        Checks.due("none stands", none.halves(2), 1);
    }

    private static void furrowsInOrder() {
        // No colours at all: every LINE halves; 0, 2, 3 stand on one, 1 and 4 at one place.
        FurrowField f = Checks.field(0, 0, 0, 0, 3, 0, 2, 0, 0, 4, 0, 0, 0, 3, 0);
        Checks.due("furrows()", f.furrows(), 4);
        dueFurrow(f, 0, 1, 0, 0);
        dueFurrow(f, 1, 0, 1, 0);
        dueFurrow(f, 2, 3, 2, -6);
        dueFurrow(f, 3, 3, 4, -12);
        Checks.due("furrow(4)", f.furrow(4), 0);
        Checks.due("furrow(MAX)", f.furrow(Integer.MAX_VALUE), 0);
        Checks.dueLine("stays", f, 3, 4, -12);
        f.away(0);
        Checks.due("furrows() without 0", f.furrows(), 3);
        dueFurrow(f, 0, 3, 2, -6);
        dueFurrow(f, 1, 3, 4, -12);
        dueFurrow(f, 2, 0, 1, 0);
        f.undo();
        dueFurrow(f, 0, 1, 0, 0);
    }

    private static void dueFurrow(FurrowField f, int k, int a, int b, int c) {
        Checks.due("furrow(" + k + ")", f.furrow(k), 1);
        Checks.dueLine("furrow(" + k + ")", f, a, b, c);
    }

    private static void furrowsOfOnePlace() {
        FurrowField f = Checks.field(7, -8, 1);
        Checks.due("one plant: furrows()", f.furrows(), 1);
        dueFurrow(f, 0, 0, 1, 8);
        Checks.due("one plant: furrow(1)", f.furrow(1), 0);
        Checks.put(f, 7, -8, 2);
        Checks.put(f, 7, 0, 3);
        Checks.due("two places: furrows()", f.furrows(), 1);
        dueFurrow(f, 0, 1, 0, -7);
        f.away(0);
        f.away(1);
        dueFurrow(f, 0, 0, 1, 0);
    }

    private static void furrowsRefused() {
        FurrowField f = new FurrowField();
        Checks.due("none: furrows()", f.furrows(), STATE);
        Checks.due("none: furrow(0)", f.furrow(0), STATE);
        Checks.due("none: furrow(-1)", f.furrow(-1), BAD);
        Checks.put(f, 1, 1, 0);
        Checks.due("one: furrow(-1)", f.furrow(-1), BAD);
        f.away(0);
        Checks.due("away: furrows()", f.furrows(), STATE);
        Checks.due("away: furrow(0)", f.furrow(0), STATE);
        Checks.dueLine("stays", f, 0, 1, 0);
    }

    private static void furrowsOfBothColours() {
        // Three reds in a row on y = 0, three blues on y = 10: only the two middle ones part both.
        FurrowField f = Checks.field(0, 0, 1, 2, 0, 1, 5, 0, 1, 0, 10, 2, 3, 10, 2, 9, 10, 2);
        Checks.due("furrows()", f.furrows(), 1);
        dueFurrow(f, 0, 10, -1, -20);
        // A DOUBLE at the first place is two of the four reds: LINES through it may part as well.
        f = Checks.field(0, 0, 3, 2, 0, 1, 5, 0, 1, 0, 10, 2, 3, 10, 2, 9, 10, 2);
        Checks.due("with a double: furrows()", f.furrows(), 2);
        dueFurrow(f, 0, 10, -3, 0);
        dueFurrow(f, 1, 10, -1, -20);
    }
}
