import java.math.BigInteger;
import java.util.ArrayList;
import java.util.Arrays;
import java.util.HashMap;
import java.util.LinkedHashSet;
import java.util.List;
import java.util.Map;

/**
 * The document once more, as plainly and slowly as can be, in other ways than FurrowField: real
 * Java arrays for the BEDS, real classes for the KINDS, whole copies for undo(), and nothing kept
 * from one call to the next. ModelTest holds the two against one another.
 */
final class SlowField {
    static final int NONE = -1000000, BAD = -1000001, STATE = -1000002, FULL = -1000003;
    static final int NULL = -1000011, PLACE = -1000012, KIND = -1000013, SIZE = -1000014, STORE = -1000015;

    // ---- KINDS, by Java's own choice of methods

    interface Stands {
        List<Integer> trace();

        default int red() {
            trace().add(10);
            return 0;
        }

        default int blue() {
            trace().add(20);
            return 0;
        }
    }

    interface Counts extends Stands {
        default int all() {
            trace().add(30);
            int red = red();
            int blue = blue();
            return red + blue == 0 ? 1 : red + blue;
        }
    }

    static class Plant implements Counts, Cloneable {
        List<Integer> trace = new ArrayList<>();
        int x, y, kind;
        boolean away;

        public List<Integer> trace() {
            return trace;
        }

        int worth() {
            trace.add(40);
            return all() * 10;
        }

        Plant twin() {
            try {
                return (Plant) clone();
            } catch (CloneNotSupportedException e) {
                throw new IllegalStateException(e);
            }
        }
    }

    static class Red extends Plant {
        public int red() {
            trace.add(11);
            return 1;
        }
    }

    static final class Blue extends Plant {
        public int blue() {
            trace.add(21);
            return 1;
        }

        int worth() {
            trace.add(41);
            return super.worth() - 5;
        }
    }

    static final class Double extends Red {
        public int red() {
            trace.add(12);
            return super.red() * 2;
        }

        public int all() {
            trace.add(31);
            return super.all() + 1;
        }
    }

    static final class Doubtful extends Plant {
        int colour;

        public int red() {
            trace.add(13);
            return colour == 1 ? 1 : super.red();
        }

        public int blue() {
            trace.add(22);
            return colour == 2 ? 1 : super.blue();
        }

        int worth() {
            trace.add(42);
            return super.all();
        }
    }

    private final Map<Integer, Object> beds = new HashMap<>();
    private List<Plant> plants = new ArrayList<>();
    private List<Plant> before = null;
    private List<Integer> trace = new ArrayList<>();
    private long[] line = {0, 1, 0};
    private int status = 0;

    private int found(int answer) {
        status = -1000010 - answer;
        return answer;
    }

    private int done(int answer) {
        status = 0;
        return answer;
    }

    // ---- beds

    private static int size(Object bed) {
        return java.lang.reflect.Array.getLength(bed);
    }

    int bed(int bed, int lane, int n) {
        if (bed < 0 || bed > 7 || lane < 0 || lane > 2 || n > 100) return BAD;
        if (n < 0) return found(SIZE);
        beds.put(bed, lane == 0 ? new short[n] : lane == 1 ? new int[n] : (Object) new long[n]);
        return done(n);
    }

    long set(int bed, int i, long v) {
        if (bed < 0 || bed > 7) return BAD;
        Object b = beds.get(bed);
        if (b == null) return found(NULL);
        if (i < 0 || i >= size(b)) return found(PLACE);
        done(0);
        if (b instanceof short[] s) return s[i] = (short) v;
        if (b instanceof int[] s) return s[i] = (int) v;
        return ((long[]) b)[i] = v;
    }

    int drop(int bed) {
        if (bed < 0 || bed > 7) return BAD;
        Object b = beds.remove(bed);
        return b == null ? found(NULL) : done(size(b));
    }

    int copy(int a, int i, int b, int j, int n) {
        if (a < 0 || a > 7 || b < 0 || b > 7) return BAD;
        try {
            System.arraycopy(beds.get(a), i, beds.get(b), j, n);
        } catch (NullPointerException e) {
            return found(NULL);
        } catch (ArrayStoreException e) {
            return found(STORE);
        } catch (IndexOutOfBoundsException e) {
            return found(PLACE);
        }
        return done(n);
    }

    // ---- plants

    private boolean isNone(int plant) {
        return plant < 0 || plant >= plants.size();
    }

    private void keep() {
        before = new ArrayList<>();
        for (Plant p : plants) before.add(p.twin());
    }

    private List<Plant> there() {
        return plants.stream().filter(p -> !p.away).toList();
    }

    int plant(int bed, int i, int kind) {
        if (bed < 0 || bed > 7 || kind < 0 || kind > 4) return BAD;
        if (plants.size() == 40) return FULL;
        Object b = beds.get(bed);
        if (b == null) return found(NULL);
        if (i < 0 || i >= size(b) || i + 1 >= size(b)) return found(PLACE);
        long x = java.lang.reflect.Array.getLong(b, i);
        long y = java.lang.reflect.Array.getLong(b, i + 1);
        if (x < -300 || x > 300 || y < -300 || y > 300) return BAD;
        keep();
        Plant p = kind == 0 ? new Plant() : kind == 1 ? new Red() : kind == 2 ? new Blue()
            : kind == 3 ? new Double() : new Doubtful();
        p.x = (int) x;
        p.y = (int) y;
        p.kind = kind;
        plants.add(p);
        return done(plants.size() - 1);
    }

    int move(int plant, int dx, int dy) {
        if (isNone(plant)) return BAD;
        Plant p = plants.get(plant);
        if (p.away) return found(NULL);
        if (Math.abs((long) p.x + dx) > 300 || Math.abs((long) p.y + dy) > 300) return BAD;
        keep();
        p.x += dx;
        p.y += dy;
        return done(1);
    }

    int away(int plant) {
        if (isNone(plant)) return BAD;
        if (plants.get(plant).away) return found(NULL);
        keep();
        plants.get(plant).away = true;
        return done(there().size());
    }

    int colour(int plant, int colour) {
        if (isNone(plant) || colour < 0 || colour > 2) return BAD;
        if (plants.get(plant).away) return found(NULL);
        if (!(plants.get(plant) instanceof Doubtful d)) return found(KIND);
        keep();
        int old = d.colour;
        d.colour = colour;
        return done(old);
    }

    int told(int plant, int what) {
        if (isNone(plant) || what < 0 || what > 3) return BAD;
        Plant p = plants.get(plant);
        if (p.away) return found(NULL);
        if (what < 3) return done(what == 0 ? p.x : what == 1 ? p.y : p.kind);
        List<List<Plant>> layers = layers();
        for (int i = 0; i < layers.size(); i++) {
            if (layers.get(i).contains(p)) return done(i + 1);
        }
        throw new IllegalStateException("no layer");
    }

    int is(int plant, int kind) {
        if (isNone(plant) || kind < 0 || kind > 4) return BAD;
        Plant p = plants.get(plant);
        if (p.away) return found(NULL);
        Class<?>[] classes = {Plant.class, Red.class, Blue.class, Double.class, Doubtful.class};
        return done(classes[kind].isInstance(p) ? 1 : 0);
    }

    int ask(int plant, int what) {
        if (isNone(plant) || what < 0 || what > 3) return BAD;
        trace = new ArrayList<>();
        Plant p = plants.get(plant);
        if (p.away) return found(NULL);
        p.trace = new ArrayList<>();
        int answer = what == 0 ? p.red() : what == 1 ? p.blue() : what == 2 ? p.all() : p.worth();
        trace = p.trace;
        p.trace = new ArrayList<>();
        return done(answer);
    }

    int trace(int i) {
        return i < 0 || i >= Math.min(16, trace.size()) ? NONE : trace.get(i);
    }

    int undo() {
        if (before == null) return STATE;
        plants = before;
        before = null;
        return 1;
    }

    // ---- the line

    private static long[] leastTerms(long a, long b, long c) {
        long g = BigInteger.valueOf(a).gcd(BigInteger.valueOf(b)).gcd(BigInteger.valueOf(c)).longValue();
        return new long[] {a / g, b / g, c / g};
    }

    private static long[] join(Plant p, Plant q) {
        long a = q.y - p.y;
        long b = p.x - q.x;
        long[] l = leastTerms(a, b, -a * p.x - b * p.y);
        long first = l[0] != 0 ? l[0] : l[1];
        return first > 0 ? l : new long[] {-l[0], -l[1], -l[2]};
    }

    private static boolean apart(Plant p, Plant q) {
        return p.x != q.x || p.y != q.y;
    }

    private static int count(Plant p, int count) {
        return count == 0 ? p.red() : count == 1 ? p.blue() : p.all();
    }

    private int sum(long[] l, int count, int sign) {
        int sum = 0;
        for (Plant p : there()) {
            if (Long.signum(l[0] * p.x + l[1] * p.y + l[2]) == sign) sum += count(p, count);
        }
        return sum;
    }

    private boolean isHalved(long[] l, int count) {
        int left = sum(l, count, 1), on = sum(l, count, 0), right = sum(l, count, -1);
        return left <= on + right && right <= on + left;
    }

    int line(int a, int b, int c) {
        for (int n : new int[] {a, b, c}) {
            if (n < -1000000 || n > 1000000) return BAD;
        }
        if (a == 0 && b == 0) return STATE;
        line = leastTerms(a, b, c);
        return 1;
    }

    int through(int p, int q) {
        if (isNone(p) || isNone(q)) return BAD;
        Plant one = plants.get(p), other = plants.get(q);
        if (one.away || other.away) return found(NULL);
        if (!apart(one, other)) return STATE;
        line = join(one, other);
        return done(1);
    }

    int lineAt(int k) {
        return k < 0 || k > 2 ? BAD : (int) line[k];
    }

    int side(int count, int side) {
        return count < 0 || count > 2 || side < 0 || side > 2 ? BAD : sum(line, count, 1 - side);
    }

    int halves(int count) {
        return count < 0 || count > 2 ? BAD : isHalved(line, count) ? 1 : 0;
    }

    private List<long[]> joined() {
        List<Plant> there = there();
        LinkedHashSet<List<Long>> seen = new LinkedHashSet<>();
        for (int i = 0; i < there.size(); i++) {
            for (int j = i + 1; j < there.size(); j++) {
                if (apart(there.get(i), there.get(j))) {
                    long[] l = join(there.get(i), there.get(j));
                    seen.add(List.of(l[0], l[1], l[2]));
                }
            }
        }
        return seen.stream().map(l -> new long[] {l.get(0), l.get(1), l.get(2)}).toList();
    }

    private List<long[]> parting() {
        List<long[]> joined = joined();
        if (joined.isEmpty()) return List.of(new long[] {0, 1, -there().get(0).y});
        return joined.stream().filter(l -> isHalved(l, 0) && isHalved(l, 1)).toList();
    }

    int furrow(int k) {
        if (k < 0) return BAD;
        if (there().isEmpty()) return STATE;
        List<long[]> parting = parting();
        if (k >= parting.size()) return 0;
        line = parting.get(k);
        return 1;
    }

    int furrows() {
        return there().isEmpty() ? STATE : parting().size();
    }

    // ---- depth

    /**
     * All less the most that stand strictly to one side: seen from the point, those within a half
     * turn from some PLANT on, itself with them, the far end of the half turn not.
     */
    private int depthOf(BigInteger x, BigInteger y, BigInteger d) {
        List<Plant> there = there();
        int n = there.size();
        BigInteger[] dx = new BigInteger[n], dy = new BigInteger[n];
        int all = 0;
        for (int i = 0; i < n; i++) {
            dx[i] = d.multiply(BigInteger.valueOf(there.get(i).x)).subtract(x);
            dy[i] = d.multiply(BigInteger.valueOf(there.get(i).y)).subtract(y);
            all += there.get(i).all();
        }
        int strictly = 0;
        for (int i = 0; i < n; i++) {
            int within = 0;
            for (int k = 0; k < n; k++) {
                int turn = dx[i].multiply(dy[k]).compareTo(dy[i].multiply(dx[k]));
                int along = dx[i].multiply(dx[k]).add(dy[i].multiply(dy[k])).signum();
                if (turn > 0 || (turn == 0 && along > 0)) within += there.get(k).all();
            }
            strictly = Math.max(strictly, within);
        }
        return all - strictly;
    }

    int depth(int x, int y, int d) {
        if (Math.abs((long) x) > 1000000 || Math.abs((long) y) > 1000000 || d < 1 || d > 1000) return BAD;
        return depthOf(BigInteger.valueOf(x), BigInteger.valueOf(y), BigInteger.valueOf(d));
    }

    long deepest(int what) {
        if (what < 0 || what > 4) return BAD;
        List<Plant> there = there();
        if (there.isEmpty()) return STATE;
        if (there.size() > 12) return FULL;
        List<BigInteger[]> points = new ArrayList<>();
        for (Plant p : there) points.add(point(p.x, p.y, 1));
        List<long[]> joined = joined();
        for (long[] l : joined) {
            for (long[] m : joined) {
                long d = l[0] * m[1] - m[0] * l[1];
                if (d > 0) points.add(point(l[1] * m[2] - m[1] * l[2], l[2] * m[0] - m[2] * l[0], d));
            }
        }
        points.sort((p, q) -> {
            int byX = p[0].multiply(q[2]).compareTo(q[0].multiply(p[2]));
            return byX != 0 ? byX : p[1].multiply(q[2]).compareTo(q[1].multiply(p[2]));
        });
        int best = -1;
        BigInteger[] at = null;
        for (BigInteger[] p : points) {
            int depth = depthOf(p[0], p[1], p[2]);
            if (depth > best) {
                best = depth;
                at = p;
            }
        }
        if (what == 0) return best;
        BigInteger upper = at[what <= 2 ? 0 : 1];
        BigInteger divisor = upper.gcd(at[2]);
        return (what % 2 == 1 ? upper : at[2]).divide(divisor).longValueExact();
    }

    private static BigInteger[] point(long x, long y, long d) {
        return new BigInteger[] {BigInteger.valueOf(x), BigInteger.valueOf(y), BigInteger.valueOf(d)};
    }

    // ---- layers

    private static long turn(Plant o, Plant p, Plant q) {
        return (long) (p.x - o.x) * (q.y - o.y) - (long) (p.y - o.y) * (q.x - o.x);
    }

    /** The corners, by the chain below and the chain above. */
    private static List<Plant> corners(List<Plant> of) {
        List<Plant> sorted = new ArrayList<>(of);
        sorted.sort((p, q) -> p.x != q.x ? Integer.compare(p.x, q.x) : Integer.compare(p.y, q.y));
        List<Plant> corners = new ArrayList<>();
        for (int pass = 0; pass < 2; pass++) {
            int start = corners.size();
            for (Plant p : sorted) {
                while (corners.size() >= start + 2
                        && turn(corners.get(corners.size() - 2), corners.get(corners.size() - 1), p) <= 0) {
                    corners.remove(corners.size() - 1);
                }
                corners.add(p);
            }
            corners.remove(corners.size() - 1);
            java.util.Collections.reverse(sorted);
        }
        return corners;
    }

    private static boolean isBetween(Plant p, Plant a, Plant b) {
        return turn(a, b, p) == 0 && p.x >= Math.min(a.x, b.x) && p.x <= Math.max(a.x, b.x)
            && p.y >= Math.min(a.y, b.y) && p.y <= Math.max(a.y, b.y);
    }

    private List<List<Plant>> layers() {
        List<List<Plant>> layers = new ArrayList<>();
        List<Plant> rest = new ArrayList<>(there());
        while (!rest.isEmpty()) {
            List<Plant> corners = corners(rest);
            if (corners.isEmpty()) corners = List.of(rest.get(0));
            List<Plant> edge = new ArrayList<>();
            for (Plant p : rest) {
                boolean on = false;
                for (int i = 0; i < corners.size(); i++) {
                    on = on || isBetween(p, corners.get(i), corners.get((i + 1) % corners.size()));
                }
                if (on) edge.add(p);
            }
            layers.add(edge);
            rest.removeAll(edge);
        }
        return layers;
    }

    int layer(int layer) {
        if (layer < 1) return BAD;
        List<List<Plant>> layers = layers();
        return layer > layers.size() ? 0 : layers.get(layer - 1).size();
    }

    // ---- most and fewest

    int most(int most) {
        if (most < 0 || most > 1) return BAD;
        int[] on = joined().stream().mapToInt(l ->
            (int) there().stream().filter(p -> l[0] * p.x + l[1] * p.y + l[2] == 0).count()).toArray();
        if (on.length == 0) return 0;
        return most == 1 ? Arrays.stream(on).max().getAsInt() : Arrays.stream(on).min().getAsInt();
    }

    long widest(int what) {
        if (what < 0 || what > 1) return BAD;
        List<Plant> there = there();
        BigInteger upper = BigInteger.ZERO, lower = BigInteger.ONE;
        for (long[] l : joined()) {
            for (long[] n : new long[][] {{l[0], l[1]}, {-l[1], l[0]}}) {
                long[] at = there.stream().mapToLong(p -> n[0] * p.x + n[1] * p.y).sorted().toArray();
                for (int i = 0; i + 1 < at.length; i++) {
                    BigInteger square = BigInteger.valueOf(at[i + 1] - at[i]).pow(2);
                    BigInteger length = BigInteger.valueOf(n[0] * n[0] + n[1] * n[1]);
                    if (square.multiply(lower).compareTo(upper.multiply(length)) > 0) {
                        upper = square;
                        lower = length;
                    }
                }
            }
        }
        if (upper.signum() == 0) return STATE;
        return (what == 0 ? upper : lower).divide(upper.gcd(lower)).longValueExact();
    }

    int count(int what) {
        switch (what) {
            case 0: return there().size();
            case 1: return plants.size();
            case 2: return beds.size();
            case 3: return layers().size();
            case 4: case 5: case 6: return there().stream().mapToInt(p -> count(p, what - 4)).sum();
            default: return BAD;
        }
    }

    int status() {
        return status;
    }
}
