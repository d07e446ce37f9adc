import java.util.Random;

/**
 * All promises: runs of calls, made by numbers that are the same each time, on FurrowField and on
 * SlowField, which must answer alike.
 */
public final class ModelTest {
    private static final int[] EDGES = {
        Integer.MIN_VALUE, -1000001, -1000000, -301, -300, -1, 0, 1, 2, 3, 4, 5, 6, 7, 8, 12, 13, 16, 39, 40,
        99, 100, 101, 300, 301, 1000, 1001, 1000000, 1000001, Integer.MAX_VALUE};

    private static final int[] REACHES = {1, 2, 3, 5, 10, 40, 300};

    /** How many PLANTS a run begins with: few let deepest() answer, many fill the field. */
    private static final int[] FIRST = {0, 5, 11, 38};

    /** Where a field ends, sums and products are greatest. */
    private static final int[] FIELD_ENDS = {-300, -299, -298, 0, 1, 298, 299, 300};

    /** What a field answers behind its 512th call is free; no step makes more calls than these. */
    private static final int LAST_CALL = 512, CALLS_OF_A_STEP = 9;

    private final Random random;
    private final int reach;
    private final int often;
    private final int first;
    private final FurrowField fast = new FurrowField();
    private final SlowField slow = new SlowField();
    private int calls;

    private ModelTest(int seed) {
        random = new Random(seed);
        reach = REACHES[seed % REACHES.length];
        often = 2 + seed % 5;
        first = FIRST[seed % FIRST.length];
    }

    public static void main(String[] args) {
        for (int seed = 0; seed < 280; seed++) {
            new ModelTest(seed).run();
        }
        Checks.end();
    }

    private void run() {
        due("bed(0, 2, 100)", fast.bed(0, 2, 100), slow.bed(0, 2, 100));
        for (int i = 0; i < first; i++) {
            plantAnywhere();
        }
        while (calls <= LAST_CALL - CALLS_OF_A_STEP) {
            step(random.nextInt(40));
        }
    }

    private void due(String call, long got, long want) {
        calls++;
        Checks.due("reach " + reach + ": " + call, got, want);
    }

    /** Mostly a number below bound, at times one from the edges. */
    private int number(int bound) {
        if (random.nextInt(25) == 0) return EDGES[random.nextInt(EDGES.length)];
        return random.nextInt(bound);
    }

    private int place() {
        if (random.nextInt(60) == 0) return EDGES[random.nextInt(EDGES.length)];
        if (reach == 300 && random.nextInt(2) == 0) return FIELD_ENDS[random.nextInt(FIELD_ENDS.length)];
        return random.nextInt(2 * reach + 1) - reach;
    }

    private int plantNumber() {
        return number(Math.max(1, slow.count(1)));
    }

    private void step(int which) {
        if (which < 12) {
            bedsAndPlanting(which);
        } else if (which < 22) {
            plants(which);
        } else if (which < 30) {
            lines(which);
        } else {
            depths(which);
        }
        if (random.nextInt(3) == 0) due("status()", fast.status(), slow.status());
    }

    private void plantAnywhere() {
        int x = place(), y = place(), k = number(5);
        due("set x", fast.set(0, 0, x), slow.set(0, 0, x));
        due("set y", fast.set(0, 1, y), slow.set(0, 1, y));
        due("plant", fast.plant(0, 0, k), slow.plant(0, 0, k));
    }

    private void bedsAndPlanting(int which) {
        int bed = random.nextInt(3) == 0 ? number(8) : 0, i = number(100), j = number(100), n = number(101);
        switch (which) {
            case 0: case 1: case 2: case 3: {
                int v = place();
                due("set", fast.set(bed, i, v), slow.set(bed, i, v));
                return;
            }
            case 4: case 5: {
                // The pace of planting differs from run to run, for the same reason.
                if (random.nextInt(often) == 0) plantAnywhere();
                return;
            }
            case 6: {
                int k = number(5);
                due("plant of " + bed + ", " + i, fast.plant(bed, i, k), slow.plant(bed, i, k));
                return;
            }
            case 7: {
                int lane = number(3), size = number(101) - (random.nextInt(9) == 0 ? 50 : 0);
                if (bed != 0) due("bed", fast.bed(bed, lane, size), slow.bed(bed, lane, size));
                return;
            }
            case 8: {
                if (bed != 0) due("drop", fast.drop(bed), slow.drop(bed));
                return;
            }
            case 9: {
                long v = random.nextLong();
                due("set long", fast.set(bed, i, v), slow.set(bed, i, v));
                return;
            }
            default: {
                int b = number(8);
                int some = random.nextInt(3) == 0 ? n : random.nextInt(10);
                due("copy", fast.copy(bed, i, b, j, some), slow.copy(bed, i, b, j, some));
            }
        }
    }

    private void plants(int which) {
        int p = plantNumber(), k = number(5);
        switch (which) {
            case 12: {
                int dx = place(), dy = place();
                due("move", fast.move(p, dx, dy), slow.move(p, dx, dy));
                return;
            }
            case 13: {
                if (random.nextInt(2) == 0) due("away", fast.away(p), slow.away(p));
                return;
            }
            case 14: {
                int c = number(3);
                due("colour", fast.colour(p, c), slow.colour(p, c));
                return;
            }
            case 15: case 16: {
                int w = number(4);
                due("told(" + p + ", " + w + ")", fast.told(p, w), slow.told(p, w));
                return;
            }
            case 17: {
                due("is(" + p + ", " + k + ")", fast.is(p, k), slow.is(p, k));
                return;
            }
            case 18: case 19: {
                int w = number(4);
                due("ask(" + p + ", " + w + ")", fast.ask(p, w), slow.ask(p, w));
                return;
            }
            case 20: {
                for (int i = -1; i < 7; i++) due("trace(" + i + ")", fast.trace(i), slow.trace(i));
                return;
            }
            default: {
                if (random.nextInt(2) == 0) due("undo()", fast.undo(), slow.undo());
            }
        }
    }

    private void lines(int which) {
        switch (which) {
            case 22: {
                int a = place(), b = place(), c = place();
                due("line", fast.line(a, b, c), slow.line(a, b, c));
                break;
            }
            case 23: case 24: {
                int p = plantNumber(), q = plantNumber();
                due("through", fast.through(p, q), slow.through(p, q));
                break;
            }
            case 25: {
                int count = number(3), side = number(3);
                due("side", fast.side(count, side), slow.side(count, side));
                break;
            }
            case 26: {
                int count = number(3);
                due("halves", fast.halves(count), slow.halves(count));
                break;
            }
            case 27: {
                due("furrows()", fast.furrows(), slow.furrows());
                break;
            }
            default: {
                int k = number(Math.max(1, slow.furrows() + 1));
                due("furrow(" + k + ")", fast.furrow(k), slow.furrow(k));
            }
        }
        for (int k = -1; k < 4; k++) due("lineAt(" + k + ")", fast.lineAt(k), slow.lineAt(k));
    }

    private void depths(int which) {
        switch (which) {
            case 30: case 31: {
                int d = random.nextBoolean() ? 1 + random.nextInt(4) : number(1001);
                int x = place() * (random.nextBoolean() ? d : 1), y = place() * (random.nextBoolean() ? d : 1);
                due("depth(" + x + ", " + y + ", " + d + ")", fast.depth(x, y, d), slow.depth(x, y, d));
                return;
            }
            case 32: case 33: {
                int all = random.nextInt(8) == 0 ? 5 : 1;
                for (int i = 0; i < all; i++) {
                    int what = all == 5 ? i : number(5);
                    due("deepest(" + what + ")", fast.deepest(what), slow.deepest(what));
                }
                return;
            }
            case 34: {
                int l = number(6);
                due("layer(" + l + ")", fast.layer(l), slow.layer(l));
                return;
            }
            case 35: {
                int most = number(2);
                due("most(" + most + ")", fast.most(most), slow.most(most));
                return;
            }
            case 36: {
                int what = number(2);
                due("widest(" + what + ")", fast.widest(what), slow.widest(what));
                return;
            }
            default: {
                int what = number(7);
                due("count(" + what + ")", fast.count(what), slow.count(what));
            }
        }
    }
}
