/**
 * A field of plants at whole places, and lines that part it fairly.
 *
 * Refusals are answers: no call ever throws. Whatever is dear to work out is kept until the
 * plants change; all rows are made with the object, so that no call makes anything new.
 */
public final class FurrowField {
    public static final int NONE = -1000000, BAD = -1000001, STATE = -1000002, FULL = -1000003;

    private static final int FINDINGS = -1000010;
    private static final int NULL = 1, PLACE = 2, KIND = 3, SIZE = 4, STORE = 5;

    private static final int BEDS = 8, ITEMS = 100;
    private static final int SHORTS = 0, INTS = 1, LANES = 3;
    private static final int PLANTS = 40, PAIRS = 780, EDGE = 300, DEEPEST_PLANTS = 12;
    private static final int DOUBTFUL = 4, KINDS = 5, RED_COLOUR = 1, BLUE_COLOUR = 2, COLOURS = 3;
    private static final int RED = 0, BLUE = 1, ALL = 2, COUNTS = 3, ASKS = 4;
    private static final int LEFT = 0, ON = 1, RIGHT = 2, SIDES = 3;
    private static final int TRACE = 16, OPEN_BODIES = 8;
    private static final int FAR = 1000000, PARTS = 1000, DIVISIONS = 100;

    /** Of each KIND the KIND that it is, too. */
    private static final int[] IS_TOO = {-1, 0, 0, 1, 0};

    /** Of each ASK, for each KIND, the BODY that begins. */
    private static final int[] BODIES = {
        10, 11, 10, 12, 13,
        20, 20, 21, 20, 22,
        30, 30, 30, 31, 30,
        40, 40, 41, 40, 42
    };

    private final Bed[] beds;
    private final Plant[] plants;
    private final Change change;
    private final Trace trace;
    private final Trace silent;
    private final Line theLine;
    private final Stand stand;
    private final Lines lines;
    private final Layers layers;
    private final Depths depths;
    private final Strips strips;
    private int given;
    private int finding;

    public FurrowField() {
        beds = new Bed[BEDS];
        for (int i = 0; i < BEDS; i++) {
            beds[i] = new Bed();
        }
        plants = new Plant[PLANTS];
        for (int i = 0; i < PLANTS; i++) {
            plants[i] = new Plant();
        }
        change = new Change();
        trace = new Trace(TRACE);
        // Counting leaves nothing in THE TRACE, so it writes to one without room.
        silent = new Trace(0);
        theLine = new Line();
        stand = new Stand();
        lines = new Lines();
        layers = new Layers();
        depths = new Depths();
        strips = new Strips();
    }

    // ---- beds

    public int bed(int bed, int lane, int n) {
        if (!isBed(bed) || !isBelow(lane, LANES) || n > ITEMS) {
            return BAD;
        }
        if (n < 0) {
            return found(SIZE);
        }
        beds[bed].lay(lane, n);
        return done(n);
    }

    public long set(int bed, int i, long v) {
        if (!isBed(bed)) {
            return BAD;
        }
        Bed at = beds[bed];
        if (!at.there) {
            return found(NULL);
        }
        if (!at.has(i, 1)) {
            return found(PLACE);
        }
        at.items[i] = at.narrowed(v);
        finding = 0;
        return at.items[i];
    }

    public int drop(int bed) {
        if (!isBed(bed)) {
            return BAD;
        }
        if (!beds[bed].there) {
            return found(NULL);
        }
        beds[bed].there = false;
        return done(beds[bed].size);
    }

    public int copy(int a, int i, int b, int j, int n) {
        if (!isBed(a) || !isBed(b)) {
            return BAD;
        }
        Bed from = beds[a];
        Bed to = beds[b];
        if (!from.there || !to.there) {
            return found(NULL);
        }
        if (from.lane != to.lane) {
            return found(STORE);
        }
        if (!from.has(i, n) || !to.has(j, n)) {
            return found(PLACE);
        }
        System.arraycopy(from.items, i, to.items, j, n);
        return done(n);
    }

    // ---- plants

    public int plant(int bed, int i, int kind) {
        if (!isBed(bed) || !isBelow(kind, KINDS)) {
            return BAD;
        }
        if (given >= PLANTS) {
            return FULL;
        }
        Bed from = beds[bed];
        if (!from.there) {
            return found(NULL);
        }
        if (!from.has(i, 2)) {
            return found(PLACE);
        }
        long x = from.items[i];
        long y = from.items[i + 1];
        if (!isInField(x) || !isInField(y)) {
            return BAD;
        }
        int number = given;
        keepForUndo(number);
        plants[number].begin((int) x, (int) y, kind, silent);
        given = number + 1;
        forget();
        return done(number);
    }

    public int move(int plant, int dx, int dy) {
        if (!isGiven(plant)) {
            return BAD;
        }
        Plant it = plants[plant];
        if (!it.there) {
            return found(NULL);
        }
        long x = (long) it.x + dx;
        long y = (long) it.y + dy;
        if (!isInField(x) || !isInField(y)) {
            return BAD;
        }
        keepForUndo(plant);
        it.x = (int) x;
        it.y = (int) y;
        forget();
        return done(1);
    }

    public int away(int plant) {
        if (!isGiven(plant)) {
            return BAD;
        }
        if (!plants[plant].there) {
            return found(NULL);
        }
        keepForUndo(plant);
        plants[plant].there = false;
        forget();
        return done(gathered().n);
    }

    public int colour(int plant, int colour) {
        if (!isGiven(plant) || !isBelow(colour, COLOURS)) {
            return BAD;
        }
        Plant it = plants[plant];
        if (!it.there) {
            return found(NULL);
        }
        if (it.kind != DOUBTFUL) {
            return found(KIND);
        }
        int old = it.colour;
        keepForUndo(plant);
        it.paint(colour, silent);
        forget();
        return done(old);
    }

    public int told(int plant, int what) {
        if (!isGiven(plant) || !isBelow(what, 4)) {
            return BAD;
        }
        Plant it = plants[plant];
        if (!it.there) {
            return found(NULL);
        }
        switch (what) {
            case 0:
                return done(it.x);
            case 1:
                return done(it.y);
            case 2:
                return done(it.kind);
            default:
                return done(peeled().layerOf(gathered().placeOf(plant)));
        }
    }

    public int is(int plant, int kind) {
        if (!isGiven(plant) || !isBelow(kind, KINDS)) {
            return BAD;
        }
        if (!plants[plant].there) {
            return found(NULL);
        }
        return done(plants[plant].isOf(kind) ? 1 : 0);
    }

    public int ask(int plant, int what) {
        if (!isGiven(plant) || !isBelow(what, ASKS)) {
            return BAD;
        }
        trace.length = 0;
        if (!plants[plant].there) {
            return found(NULL);
        }
        return done(plants[plant].answer(what, trace));
    }

    public int trace(int i) {
        return isBelow(i, trace.length) ? trace.numbers[i] : NONE;
    }

    public int undo() {
        if (!change.open || !isBelow(change.number, PLANTS)) {
            return STATE;
        }
        change.open = false;
        plants[change.number].become(change.before);
        given = change.given;
        forget();
        return 1;
    }

    // ---- the line

    public int line(int a, int b, int c) {
        if (!isWithin(a, FAR) || !isWithin(b, FAR) || !isWithin(c, FAR)) {
            return BAD;
        }
        if (a == 0 && b == 0) {
            return STATE;
        }
        theLine.become(a, b, c);
        return 1;
    }

    public int through(int p, int q) {
        if (!isGiven(p) || !isGiven(q)) {
            return BAD;
        }
        Plant one = plants[p];
        Plant other = plants[q];
        if (!one.there || !other.there) {
            return found(NULL);
        }
        if (one.x == other.x && one.y == other.y) {
            return STATE;
        }
        theLine.join(one.x, one.y, other.x, other.y);
        return done(1);
    }

    public int lineAt(int k) {
        switch (k) {
            case 0:
                return theLine.a;
            case 1:
                return theLine.b;
            case 2:
                return theLine.c;
            default:
                return BAD;
        }
    }

    public int side(int count, int side) {
        if (!isBelow(count, COUNTS) || !isBelow(side, SIDES)) {
            return BAD;
        }
        return gathered().sumAt(theLine, count, side);
    }

    public int halves(int count) {
        if (!isBelow(count, COUNTS)) {
            return BAD;
        }
        return gathered().isHalvedBy(theLine, count) ? 1 : 0;
    }

    public int furrow(int k) {
        if (k < 0) {
            return BAD;
        }
        if (gathered().n == 0) {
            return STATE;
        }
        if (k >= joined().furrowCount(stand)) {
            return 0;
        }
        lines.giveFurrow(stand, k, theLine);
        return 1;
    }

    public int furrows() {
        if (gathered().n == 0) {
            return STATE;
        }
        return joined().furrowCount(stand);
    }

    // ---- depth, layers, most and fewest

    public int depth(int x, int y, int d) {
        if (!isWithin(x, FAR) || !isWithin(y, FAR) || d < 1 || d > PARTS) {
            return BAD;
        }
        return depths.depthAt(gathered(), x, y, d, 0);
    }

    public long deepest(int what) {
        if (!isBelow(what, 5)) {
            return BAD;
        }
        if (gathered().n == 0) {
            return STATE;
        }
        if (stand.n > DEEPEST_PLANTS) {
            return FULL;
        }
        if (!depths.known) {
            depths.findDeepest(stand, joined());
        }
        return depths.tell(what);
    }

    public int layer(int layer) {
        if (layer < 1) {
            return BAD;
        }
        return peeled().sizeOf(layer);
    }

    public int most(int most) {
        if (!isBelow(most, 2)) {
            return BAD;
        }
        return most == 1 ? joined().greatest : joined().least;
    }

    public long widest(int what) {
        if (!isBelow(what, 2)) {
            return BAD;
        }
        if (joined().n == 0) {
            return STATE;
        }
        if (!strips.known) {
            strips.findWidest(gathered(), lines);
        }
        return what == 0 ? strips.upper : strips.lower;
    }

    public int count(int what) {
        switch (what) {
            case 0:
                return gathered().n;
            case 1:
                return given;
            case 2:
                return bedsThere();
            case 3:
                return peeled().n;
            case 4:
                return gathered().total(RED);
            case 5:
                return gathered().total(BLUE);
            case 6:
                return gathered().total(ALL);
            default:
                return BAD;
        }
    }

    public int status() {
        return finding;
    }

    // ---- what the calls share

    private int found(int number) {
        finding = number;
        return FINDINGS - number;
    }

    private int done(int answer) {
        finding = 0;
        return answer;
    }

    private boolean isGiven(int plant) {
        return isBelow(plant, given);
    }

    private int bedsThere() {
        int there = 0;
        for (int i = 0; i < BEDS; i++) {
            if (beds[i].there) {
                there++;
            }
        }
        return there;
    }

    private void keepForUndo(int plant) {
        change.open = true;
        change.number = plant;
        change.given = given;
        change.before.become(plants[plant]);
    }

    private void forget() {
        stand.known = false;
        lines.known = false;
        layers.known = false;
        depths.known = false;
        strips.known = false;
    }

    private Stand gathered() {
        if (!stand.known) {
            stand.gather(plants, given);
        }
        return stand;
    }

    private Lines joined() {
        if (!lines.known) {
            lines.gather(gathered());
        }
        return lines;
    }

    private Layers peeled() {
        if (!layers.known) {
            layers.peel(gathered());
        }
        return layers;
    }

    private static boolean isBelow(int number, int bound) {
        return number >= 0 && number < bound;
    }

    private static boolean isWithin(long number, long bound) {
        return number >= -bound && number <= bound;
    }

    private static boolean isInField(long number) {
        return isWithin(number, EDGE);
    }

    private static boolean isBed(int bed) {
        return isBelow(bed, BEDS);
    }

    /** The greatest divisor of both; 0 for two zeros, so a caller divides only by more than 1. */
    private static long commonDivisor(long one, long other) {
        long a = one < 0 ? -one : one;
        long b = other < 0 ? -other : other;
        for (int step = 0; step < DIVISIONS && b != 0; step++) {
            long rest = a % b;
            a = b;
            b = rest;
        }
        return a;
    }

    /** A number without the divisors that it has in common with another one. */
    private static long without(long number, long other) {
        long divisor = commonDivisor(number, other);
        return divisor > 1 ? number / divisor : number;
    }

    private static final class Bed {
        final long[] items = new long[ITEMS];
        boolean there;
        int lane;
        int size;

        void lay(int newLane, int newSize) {
            there = true;
            lane = newLane;
            size = newSize;
            for (int i = 0; i < ITEMS; i++) {
                items[i] = 0;
            }
        }

        /** The form of the test keeps clear of sums that would wrap around. */
        boolean has(int from, int n) {
            return from >= 0 && n >= 0 && n <= size && from <= size - n;
        }

        long narrowed(long v) {
            if (lane == SHORTS) {
                return (short) v;
            }
            return lane == INTS ? (int) v : v;
        }
    }

    private static final class Trace {
        final int[] numbers;
        int length;

        Trace(int room) {
            numbers = new int[room > 0 ? room : 0];
        }

        void leave(int body) {
            if (length >= 0 && length < numbers.length) {
                numbers[length] = body;
                length++;
            }
        }
    }

    private static final class Plant {
        int x;
        int y;
        int kind;
        int colour;
        int red;
        int blue;
        int all;
        boolean there;

        void begin(int atX, int atY, int ofKind, Trace silent) {
            x = atX;
            y = atY;
            kind = ofKind;
            there = true;
            paint(0, silent);
        }

        /** The COUNTS hang on nothing but the KIND and the COLOUR, so they are kept. */
        void paint(int newColour, Trace silent) {
            colour = newColour;
            red = begun(RED, silent, 0);
            blue = begun(BLUE, silent, 0);
            all = begun(ALL, silent, 0);
        }

        void become(Plant other) {
            x = other.x;
            y = other.y;
            kind = other.kind;
            colour = other.colour;
            red = other.red;
            blue = other.blue;
            all = other.all;
            there = other.there;
        }

        boolean isOf(int wanted) {
            int k = kind;
            for (int step = 0; step < KINDS && isBelow(k, KINDS); step++) {
                if (k == wanted) {
                    return true;
                }
                k = IS_TOO[k];
            }
            return false;
        }

        int answer(int what, Trace leaves) {
            return begun(what, leaves, 0);
        }

        /** An ASK begins; depth is how many BODIES stand open. */
        private int begun(int what, Trace leaves, int depth) {
            int at = what * KINDS + kind;
            return isBelow(at, BODIES.length) ? gives(BODIES[at], leaves, depth) : 0;
        }

        private int gives(int body, Trace leaves, int depth) {
            if (depth >= OPEN_BODIES) {
                return 0;
            }
            leaves.leave(body);
            int next = depth + 1;
            switch (body) {
                case 11:
                case 21:
                    return 1;
                case 12:
                    return 2 * gives(11, leaves, next);
                case 13:
                    return colour == RED_COLOUR ? 1 : gives(10, leaves, next);
                case 22:
                    return colour == BLUE_COLOUR ? 1 : gives(20, leaves, next);
                case 30:
                    // Of no colour at all, a PLANT still counts as one.
                    return Math.max(1, begun(RED, leaves, next) + begun(BLUE, leaves, next));
                case 31:
                    return 1 + gives(30, leaves, next);
                case 40:
                    return 10 * begun(ALL, leaves, next);
                case 41:
                    return gives(40, leaves, next) - 5;
                case 42:
                    return gives(30, leaves, next);
                default:
                    return 0;
            }
        }
    }

    /** One PLANT and the numbers given, as they were ahead of the latest change. */
    private static final class Change {
        final Plant before = new Plant();
        boolean open;
        int number;
        int given;
    }

    private static final class Line {
        int a = 0;
        int b = 1;
        int c = 0;

        void become(int newA, int newB, int newC) {
            a = newA;
            b = newB;
            c = newC;
            int divisor = (int) commonDivisor(commonDivisor(a, b), c);
            if (divisor > 1) {
                a = a / divisor;
                b = b / divisor;
                c = c / divisor;
            }
        }

        void join(int x1, int y1, int x2, int y2) {
            int upA = y1 - y2;
            int upB = x2 - x1;
            int upC = -(upA * x1 + upB * y1);
            if (upA < 0 || (upA == 0 && upB < 0)) {
                become(-upA, -upB, -upC);
            } else {
                become(upA, upB, upC);
            }
        }

        int sideOf(int x, int y) {
            long at = (long) a * x + (long) b * y + c;
            if (at == 0) {
                return ON;
            }
            return at > 0 ? LEFT : RIGHT;
        }
    }

    /** The PLANTS that are there, close together in rows, in the order of their numbers. */
    private static final class Stand {
        final int[] number = new int[PLANTS];
        final int[] x = new int[PLANTS];
        final int[] y = new int[PLANTS];
        final int[] red = new int[PLANTS];
        final int[] blue = new int[PLANTS];
        final int[] all = new int[PLANTS];
        boolean known;
        int n;

        void gather(Plant[] plants, int given) {
            n = 0;
            for (int i = 0; i < given && i < PLANTS; i++) {
                if (plants[i].there) {
                    add(i, plants[i]);
                }
            }
            known = true;
        }

        private void add(int itsNumber, Plant it) {
            number[n] = itsNumber;
            x[n] = it.x;
            y[n] = it.y;
            red[n] = it.red;
            blue[n] = it.blue;
            all[n] = it.all;
            n++;
        }

        int placeOf(int itsNumber) {
            for (int i = 0; i < n; i++) {
                if (number[i] == itsNumber) {
                    return i;
                }
            }
            return -1;
        }

        boolean isTogether(int i, int j) {
            return x[i] == x[j] && y[i] == y[j];
        }

        private int[] row(int kindOfCount) {
            if (kindOfCount == RED) {
                return red;
            }
            return kindOfCount == BLUE ? blue : all;
        }

        int total(int kindOfCount) {
            int[] row = row(kindOfCount);
            int sum = 0;
            for (int i = 0; i < n; i++) {
                sum += row[i];
            }
            return sum;
        }

        int sumAt(Line line, int kindOfCount, int wanted) {
            int[] row = row(kindOfCount);
            int sum = 0;
            for (int i = 0; i < n; i++) {
                if (line.sideOf(x[i], y[i]) == wanted) {
                    sum += row[i];
                }
            }
            return sum;
        }

        boolean isHalvedBy(Line line, int kindOfCount) {
            int[] row = row(kindOfCount);
            int whole = 0;
            int left = 0;
            int right = 0;
            for (int i = 0; i < n; i++) {
                int side = line.sideOf(x[i], y[i]);
                whole += row[i];
                left += side == LEFT ? row[i] : 0;
                right += side == RIGHT ? row[i] : 0;
            }
            return 2 * left <= whole && 2 * right <= whole;
        }

        /** Above 0 if k lies to the left as one goes from i to j, 0 if on one line with both. */
        int turn(int i, int j, int k) {
            return (x[j] - x[i]) * (y[k] - y[i]) - (y[j] - y[i]) * (x[k] - x[i]);
        }
    }

    /** The LINES through two PLANTS at unlike places, each once, by its first pair. */
    private static final class Lines {
        final int[] a = new int[PAIRS];
        final int[] b = new int[PAIRS];
        final int[] c = new int[PAIRS];
        private final int[] furrows = new int[PAIRS];
        private final Line scratch = new Line();
        private boolean furrowsKnown;
        private int furrowsFound;
        boolean known;
        int n;
        int greatest;
        int least;

        void gather(Stand stand) {
            n = 0;
            greatest = 0;
            least = 0;
            furrowsKnown = false;
            for (int i = 0; i < stand.n; i++) {
                for (int j = i + 1; j < stand.n; j++) {
                    if (!stand.isTogether(i, j) && isFirstPair(stand, i, j)) {
                        add(stand, i, j);
                    }
                }
            }
            known = true;
        }

        /** A pair is the first of its LINE unless a PLANT on it makes a lesser one with i. */
        private boolean isFirstPair(Stand stand, int i, int j) {
            for (int k = 0; k < j; k++) {
                boolean lesser = k < i || (k > i && !stand.isTogether(i, k));
                if (lesser && stand.turn(i, j, k) == 0) {
                    return false;
                }
            }
            return true;
        }

        private void add(Stand stand, int i, int j) {
            if (n >= PAIRS) {
                return;
            }
            scratch.join(stand.x[i], stand.y[i], stand.x[j], stand.y[j]);
            a[n] = scratch.a;
            b[n] = scratch.b;
            c[n] = scratch.c;
            n++;
            int on = plantsOn(stand, i, j);
            greatest = Math.max(greatest, on);
            least = n == 1 ? on : Math.min(least, on);
        }

        private int plantsOn(Stand stand, int i, int j) {
            int on = 0;
            for (int k = 0; k < stand.n; k++) {
                if (stand.turn(i, j, k) == 0) {
                    on++;
                }
            }
            return on;
        }

        int furrowCount(Stand stand) {
            if (!furrowsKnown) {
                findFurrows(stand);
            }
            // No two unlike places: the one level LINE through the place of all is the FURROW.
            return n == 0 ? 1 : furrowsFound;
        }

        private void findFurrows(Stand stand) {
            furrowsFound = 0;
            for (int k = 0; k < n; k++) {
                scratch.become(a[k], b[k], c[k]);
                if (stand.isHalvedBy(scratch, RED) && stand.isHalvedBy(scratch, BLUE)) {
                    furrows[furrowsFound] = k;
                    furrowsFound++;
                }
            }
            furrowsKnown = true;
        }

        void giveFurrow(Stand stand, int k, Line into) {
            if (n == 0 && stand.n > 0) {
                into.become(0, 1, -stand.y[0]);
            } else if (isBelow(k, furrowsFound)) {
                int at = furrows[k];
                into.become(a[at], b[at], c[at]);
            }
        }
    }

    private static final class Layers {
        private final int[] layer = new int[PLANTS];
        boolean known;
        int n;

        void peel(Stand stand) {
            n = 0;
            int left = stand.n;
            for (int i = 0; i < PLANTS; i++) {
                layer[i] = 0;
            }
            for (int round = 1; round <= PLANTS && left > 0; round++) {
                left -= peelOne(stand, round);
                n = round;
            }
            known = true;
        }

        private int peelOne(Stand stand, int round) {
            int peeled = 0;
            for (int i = 0; i < stand.n; i++) {
                if (layer[i] == 0 && isOnEdge(stand, i, round)) {
                    layer[i] = round;
                    peeled++;
                }
            }
            return peeled;
        }

        /** Those peeled in this same round still belong to the figure. */
        private boolean isIn(int i, int round) {
            return layer[i] == 0 || layer[i] == round;
        }

        private boolean isOnEdge(Stand stand, int i, int round) {
            boolean allHere = true;
            for (int j = 0; j < stand.n; j++) {
                if (isIn(j, round) && !stand.isTogether(i, j)) {
                    allHere = false;
                    if (isOneSided(stand, i, j, round)) {
                        return true;
                    }
                }
            }
            return allHere;
        }

        private boolean isOneSided(Stand stand, int i, int j, int round) {
            boolean someLeft = false;
            boolean someRight = false;
            for (int k = 0; k < stand.n; k++) {
                if (isIn(k, round)) {
                    int turn = stand.turn(i, j, k);
                    someLeft = someLeft || turn > 0;
                    someRight = someRight || turn < 0;
                    if (someLeft && someRight) {
                        return false;
                    }
                }
            }
            return true;
        }

        int layerOf(int i) {
            return isBelow(i, PLANTS) ? layer[i] : 0;
        }

        int sizeOf(int wanted) {
            int size = 0;
            for (int i = 0; i < PLANTS; i++) {
                if (layer[i] == wanted) {
                    size++;
                }
            }
            return size;
        }
    }

    /** DEPTH of points, and the deepest point, which is x / lower, y / lower. */
    private static final class Depths {
        private final long[] dx = new long[PLANTS];
        private final long[] dy = new long[PLANTS];
        boolean known;
        private int depth;
        private long x;
        private long y;
        private long lower;

        /**
         * DEPTH of px / d, py / d. It stops early with some number below enough as soon as the
         * DEPTH is seen to be below enough.
         */
        int depthAt(Stand stand, long px, long py, long d, int enough) {
            int here = 0;
            for (int i = 0; i < stand.n; i++) {
                dx[i] = stand.x[i] * d - px;
                dy[i] = stand.y[i] * d - py;
                if (isHere(i)) {
                    here += stand.all[i];
                }
            }
            int least = stand.total(ALL);
            for (int i = 0; i < stand.n && least >= enough; i++) {
                if (!isHere(i)) {
                    least = Math.min(least, here + leastBeside(stand, i));
                }
            }
            return least;
        }

        private boolean isHere(int i) {
            return dx[i] == 0 && dy[i] == 0;
        }

        /**
         * The least sum for LINES turned a very little from that towards PLANT i, either way:
         * of the PLANTS on it only those ahead of the point or only those behind it are kept. A
         * LINE turned so never has more than the one it came from, so no other need be tried.
         */
        private int leastBeside(Stand stand, int i) {
            int left = 0;
            int right = 0;
            int ahead = 0;
            int behind = 0;
            for (int k = 0; k < stand.n; k++) {
                long turn = dx[i] * dy[k] - dy[i] * dx[k];
                long along = dx[i] * dx[k] + dy[i] * dy[k];
                if (turn > 0) {
                    left += stand.all[k];
                } else if (turn < 0) {
                    right += stand.all[k];
                } else if (along > 0) {
                    ahead += stand.all[k];
                } else if (along < 0) {
                    behind += stand.all[k];
                }
            }
            return Math.min(left, right) + Math.min(ahead, behind);
        }

        void findDeepest(Stand stand, Lines lines) {
            depth = 0;
            x = 0;
            y = 0;
            lower = 1;
            for (int i = 0; i < stand.n; i++) {
                consider(stand, stand.x[i], stand.y[i], 1);
            }
            for (int i = 0; i < lines.n; i++) {
                for (int j = i + 1; j < lines.n; j++) {
                    considerCrossing(stand, lines, i, j);
                }
            }
            known = true;
        }

        private void considerCrossing(Stand stand, Lines lines, int i, int j) {
            long d = (long) lines.a[i] * lines.b[j] - (long) lines.a[j] * lines.b[i];
            if (d == 0) {
                return;
            }
            long px = (long) lines.b[i] * lines.c[j] - (long) lines.b[j] * lines.c[i];
            long py = (long) lines.c[i] * lines.a[j] - (long) lines.c[j] * lines.a[i];
            if (d > 0) {
                consider(stand, px, py, d);
            } else {
                consider(stand, -px, -py, -d);
            }
        }

        private void consider(Stand stand, long px, long py, long d) {
            int enough = isAhead(px, py, d) ? depth : depth + 1;
            int found = depthAt(stand, px, py, d, enough);
            if (found >= enough) {
                depth = found;
                x = px;
                y = py;
                lower = d;
            }
        }

        private boolean isAhead(long px, long py, long d) {
            long mine = px * lower;
            long its = x * d;
            return mine < its || (mine == its && py * lower < y * d);
        }

        long tell(int what) {
            switch (what) {
                case 0:
                    return depth;
                case 1:
                    return without(x, lower);
                case 2:
                    return without(lower, x);
                case 3:
                    return without(y, lower);
                default:
                    return without(lower, y);
            }
        }
    }

    /** The WIDEST empty STRIP, by the square of its WIDTH. */
    private static final class Strips {
        private final int[] along = new int[PLANTS];
        boolean known;
        long upper;
        long lower;

        void findWidest(Stand stand, Lines lines) {
            upper = 0;
            lower = 1;
            for (int k = 0; k < lines.n; k++) {
                consider(stand, lines.a[k], lines.b[k]);
                consider(stand, lines.b[k], -lines.a[k]);
            }
            long divisor = commonDivisor(upper, lower);
            if (divisor > 1) {
                upper = upper / divisor;
                lower = lower / divisor;
            }
            known = true;
        }

        /** The STRIPS whose LINES stand at right angles to the direction a, b. */
        private void consider(Stand stand, int a, int b) {
            for (int i = 0; i < stand.n; i++) {
                putInOrder(i, a * stand.x[i] + b * stand.y[i]);
            }
            long gap = 0;
            for (int i = 1; i < stand.n; i++) {
                gap = Math.max(gap, along[i] - along[i - 1]);
            }
            long square = gap * gap;
            long length = (long) a * a + (long) b * b;
            if (square * lower > upper * length) {
                upper = square;
                lower = length;
            }
        }

        private void putInOrder(int filled, int value) {
            int at = filled;
            while (at > 0 && along[at - 1] > value) {
                along[at] = along[at - 1];
                at--;
            }
            along[at] = value;
        }
    }
}
