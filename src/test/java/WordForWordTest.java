import java.util.ArrayList;
import java.util.LinkedHashMap;
import java.util.List;
import java.util.Map;
import java.util.Random;

/**
 * The geometry of "Terms" tried out word for word: every LINE through a point that can differ from
 * another, every two parallel LINES, every crossing. Nothing here is shortened by a thought, as it
 * is in the class and in SlowField.
 */
public final class WordForWordTest {
    private static final int[] ALL = {1, 1, 1, 3, 1}, RED = {0, 1, 0, 2, 0}, BLUE = {0, 0, 1, 0, 0};

    public static void main(String[] args) {
        for (int seed = 0; seed < 1500; seed++) {
            Random random = new Random(seed);
            int[][] plants = places(random, 1 + random.nextInt(9));
            FurrowField f = planted(plants);
            String when = "seed " + seed;
            depths(when, f, plants, random);
            deepest(when, f, plants);
            furrows(when, f, plants);
            most(when, f, plants);
            widest(when, f, plants);
            layers(when, f, plants);
        }
        Checks.end();
    }

    // ---- fields

    /** Close fields have many PLANTS at one place and on one LINE; far ones have great numbers. */
    private static int[][] places(Random random, int n) {
        int[] reaches = {1, 2, 3, 5, 300};
        int reach = reaches[random.nextInt(reaches.length)];
        boolean row = random.nextInt(6) == 0;
        int[][] plants = new int[n][];
        for (int i = 0; i < n; i++) {
            int x = random.nextInt(2 * reach + 1) - reach;
            int y = row ? -x : random.nextInt(2 * reach + 1) - reach;
            plants[i] = new int[] {x, y, random.nextInt(5)};
        }
        return plants;
    }

    private static FurrowField planted(int[][] plants) {
        FurrowField f = new FurrowField();
        f.bed(0, 1, 2);
        for (int[] plant : plants) {
            f.set(0, 0, plant[0]);
            f.set(0, 1, plant[1]);
            f.plant(0, 0, plant[2]);
        }
        return f;
    }

    // ---- DEPTH

    private static void depths(String when, FurrowField f, int[][] plants, Random random) {
        for (int time = 0; time < 12; time++) {
            int d = 1 + random.nextInt(4);
            int[] near = plants[random.nextInt(plants.length)];
            int x = near[0] * d + random.nextInt(3) - 1;
            int y = near[1] * d + random.nextInt(3) - 1;
            String call = when + ": depth(" + x + ", " + y + ", " + d + ")";
            Checks.due(call, f.depth(x, y, d), depthAt(plants, x, y, d));
        }
    }

    /**
     * "the least sum of ALL of the PLANTS on and to one side of a LINE through it, either side":
     * the LINES towards a PLANT, and between those towards two PLANTS, either way round.
     */
    private static int depthAt(int[][] plants, long x, long y, long d) {
        List<long[]> seen = new ArrayList<>();
        for (int[] plant : plants) {
            seen.add(new long[] {plant[0] * d - x, plant[1] * d - y});
        }
        List<long[]> ways = new ArrayList<>();
        ways.add(new long[] {1, 0});
        ways.add(new long[] {0, 1});
        for (long[] one : seen) {
            ways.add(one);
            ways.add(new long[] {-one[1], one[0]});
            for (long[] other : seen) {
                ways.add(new long[] {one[0] + other[0], one[1] + other[1]});
                ways.add(new long[] {one[0] - other[0], one[1] - other[1]});
            }
        }
        int least = Integer.MAX_VALUE;
        for (long[] way : ways) {
            if (way[0] != 0 || way[1] != 0) {
                least = Math.min(least, Math.min(besides(plants, seen, way, 1), besides(plants, seen, way, -1)));
            }
        }
        return least;
    }

    private static int besides(int[][] plants, List<long[]> seen, long[] way, int side) {
        int sum = 0;
        for (int i = 0; i < plants.length; i++) {
            long turn = minus(way[0], seen.get(i)[1], way[1], seen.get(i)[0]);
            sum += Long.signum(turn) * side >= 0 ? ALL[plants[i][2]] : 0;
        }
        return sum;
    }

    /** a b - c d, and an end of the test rather than a number that has wrapped around. */
    private static long minus(long a, long b, long c, long d) {
        return Math.subtractExact(Math.multiplyExact(a, b), Math.multiplyExact(c, d));
    }

    // ---- the deepest one

    private static void deepest(String when, FurrowField f, int[][] plants) {
        long[] best = null;
        int bestDepth = 0;
        for (long[] point : points(plants)) {
            int depth = depthAt(plants, point[0], point[1], point[2]);
            if (best == null || depth > bestDepth || (depth == bestDepth && isAhead(point, best))) {
                best = point;
                bestDepth = depth;
            }
        }
        Checks.due(when + ": deepest(0)", f.deepest(0), bestDepth);
        for (int axis = 0; axis < 2; axis++) {
            long upper = f.deepest(1 + 2 * axis);
            long lower = f.deepest(2 + 2 * axis);
            Checks.isTrue(when + ": the lower number is above 0", lower > 0);
            Checks.due(when + ": least terms", divisor(upper, lower), 1);
            Checks.due(when + ": number " + axis + " of the point", minus(upper, best[2], best[axis], lower), 0);
        }
    }

    private static boolean isAhead(long[] point, long[] best) {
        long byX = minus(point[0], best[2], best[0], point[2]);
        return byX < 0 || (byX == 0 && minus(point[1], best[2], best[1], point[2]) < 0);
    }

    private static long divisor(long a, long b) {
        return b == 0 ? Math.abs(a) : divisor(b, a % b);
    }

    /** "the points where PLANTS stand, and those where two LINES through two PLANTS .. each cross" */
    private static List<long[]> points(int[][] plants) {
        List<long[]> points = new ArrayList<>();
        for (int[] plant : plants) {
            points.add(new long[] {plant[0], plant[1], 1});
        }
        List<long[]> lines = new ArrayList<>(lines(plants).values());
        for (long[] one : lines) {
            for (long[] other : lines) {
                long d = minus(one[0], other[1], other[0], one[1]);
                if (d > 0) {
                    points.add(new long[] {minus(one[1], other[2], other[1], one[2]),
                        minus(one[2], other[0], other[2], one[0]), d});
                }
            }
        }
        return points;
    }

    // ---- LINES through two PLANTS

    /** The LINES by their numbers as a text, in the order of the first pair of each. */
    private static Map<String, long[]> lines(int[][] plants) {
        Map<String, long[]> lines = new LinkedHashMap<>();
        for (int i = 0; i < plants.length; i++) {
            for (int j = i + 1; j < plants.length; j++) {
                long a = plants[i][1] - plants[j][1];
                long b = plants[j][0] - plants[i][0];
                if (a != 0 || b != 0) {
                    long c = -(a * plants[i][0] + b * plants[i][1]);
                    long by = Math.abs(divisor(divisor(a, b), c)) * (a < 0 || (a == 0 && b < 0) ? -1 : 1);
                    long[] line = {a / by, b / by, c / by};
                    lines.putIfAbsent(line[0] + " " + line[1] + " " + line[2], line);
                }
            }
        }
        return lines;
    }

    private static int sum(int[][] plants, int[] counts, long[] line, int sign) {
        int sum = 0;
        for (int[] plant : plants) {
            boolean there = Long.signum(line[0] * plant[0] + line[1] * plant[1] + line[2]) == sign;
            sum += there ? counts[plant[2]] : 0;
        }
        return sum;
    }

    /** "neither LEFT nor RIGHT of it more than half of the sum" */
    private static boolean halves(int[][] plants, int[] counts, long[] line) {
        int left = sum(plants, counts, line, 1);
        int right = sum(plants, counts, line, -1);
        double half = (left + right + sum(plants, counts, line, 0)) / 2.0;
        return left <= half && right <= half;
    }

    private static void furrows(String when, FurrowField f, int[][] plants) {
        List<long[]> due = new ArrayList<>();
        Map<String, long[]> lines = lines(plants);
        for (long[] line : lines.values()) {
            if (halves(plants, RED, line) && halves(plants, BLUE, line)) {
                due.add(line);
            }
        }
        if (lines.isEmpty()) {
            due.add(new long[] {0, 1, -plants[0][1]});
        }
        Checks.due(when + ": furrows()", f.furrows(), due.size());
        for (int k = 0; k < due.size(); k++) {
            Checks.due(when + ": furrow(" + k + ")", f.furrow(k), 1);
            long[] line = due.get(k);
            Checks.dueLine(when + ": furrow(" + k + ")", f, (int) line[0], (int) line[1], (int) line[2]);
        }
        Checks.due(when + ": no more", f.furrow(due.size()), 0);
    }

    private static void most(String when, FurrowField f, int[][] plants) {
        int[] one = {1, 1, 1, 1, 1};
        int most = 0;
        int least = 0;
        for (long[] line : lines(plants).values()) {
            int on = sum(plants, one, line, 0);
            most = Math.max(most, on);
            least = least == 0 ? on : Math.min(least, on);
        }
        Checks.due(when + ": most(1)", f.most(1), most);
        Checks.due(when + ": most(0)", f.most(0), least);
    }

    // ---- STRIPS

    /** Every two parallel LINES through a PLANT each, every PLANT tried between them. */
    private static void widest(String when, FurrowField f, int[][] plants) {
        long upper = 0;
        long lower = 1;
        for (long[] line : lines(plants).values()) {
            for (long[] across : new long[][] {{line[0], line[1]}, {line[1], -line[0]}}) {
                long length = across[0] * across[0] + across[1] * across[1];
                for (int[] one : plants) {
                    for (int[] other : plants) {
                        long gap = at(across, other) - at(across, one);
                        if (gap > 0 && isEmpty(plants, across, at(across, one), at(across, other))
                                && minus(gap * gap, lower, upper, length) > 0) {
                            upper = gap * gap;
                            lower = length;
                        }
                    }
                }
            }
        }
        long by = upper == 0 ? 1 : divisor(upper, lower);
        Checks.due(when + ": widest(0)", f.widest(0), upper == 0 ? FurrowField.STATE : upper / by);
        Checks.due(when + ": widest(1)", f.widest(1), upper == 0 ? FurrowField.STATE : lower / by);
    }

    private static long at(long[] across, int[] plant) {
        return across[0] * plant[0] + across[1] * plant[1];
    }

    private static boolean isEmpty(int[][] plants, long[] across, long from, long to) {
        for (int[] plant : plants) {
            if (at(across, plant) > from && at(across, plant) < to) {
                return false;
            }
        }
        return true;
    }

    // ---- LAYERS

    /** "the PLANTS that stand on the edge of the least convex figure around all": those not inside. */
    private static void layers(String when, FurrowField f, int[][] plants) {
        int[] layer = new int[plants.length];
        int layers = 0;
        int left = plants.length;
        while (left > 0) {
            layers++;
            List<int[]> rest = new ArrayList<>();
            for (int i = 0; i < plants.length; i++) {
                if (layer[i] == 0) {
                    rest.add(plants[i]);
                }
            }
            int size = 0;
            for (int i = 0; i < plants.length; i++) {
                if (layer[i] == 0 && !isInside(rest, plants[i])) {
                    layer[i] = layers;
                    size++;
                }
            }
            left -= size;
            Checks.due(when + ": layer(" + layers + ")", f.layer(layers), size);
        }
        Checks.due(when + ": count(3)", f.count(3), layers);
        for (int i = 0; i < plants.length; i++) {
            Checks.due(when + ": told(" + i + ", 3)", f.told(i, 3), layer[i]);
        }
    }

    /** Inside stands who is within a triangle of others, or where two of their stretches cross. */
    private static boolean isInside(List<int[]> rest, int[] it) {
        for (int[] a : rest) {
            for (int[] b : rest) {
                for (int[] c : rest) {
                    if (turn(a, b, it) > 0 && turn(b, c, it) > 0 && turn(c, a, it) > 0) {
                        return true;
                    }
                }
            }
        }
        for (int[] a : rest) {
            for (int[] b : rest) {
                if (isBetween(a, it, b) && rest.stream().anyMatch(c -> turn(a, b, c) != 0
                        && rest.stream().anyMatch(d -> isBetween(c, it, d)))) {
                    return true;
                }
            }
        }
        return false;
    }

    private static long turn(int[] a, int[] b, int[] c) {
        return minus(b[0] - a[0], c[1] - a[1], b[1] - a[1], c[0] - a[0]);
    }

    private static boolean isBetween(int[] a, int[] it, int[] b) {
        long along = (a[0] - it[0]) * (long) (b[0] - it[0]) + (a[1] - it[1]) * (long) (b[1] - it[1]);
        return turn(a, b, it) == 0 && along < 0;
    }
}
