/**
 * Rotor balancer: unbalance in two planes corrected by drilled holes at lawful angles, with sums
 * kept exact in a ring with root three. What each call promises stands in the project's document.
 */
public final class RotorBalancer {
    public static final int NONE = -1, BAD = -2, NOT = -3, FULL = -4, OVER = -5, ZERO = -6;

    private static final int REGISTERS = 6;
    private static final int PARTS = 5;
    private static final int PLANES = 2;
    private static final int BEARINGS = 2;
    private static final int TRIALS = 3;
    private static final int ANGLES = 12;
    private static final int HALF_ROUND = 6;
    private static final int ALL_ANGLES = 4095;
    private static final int MOST_LUMPS = 8;
    private static final int MOST_MOMENT = 99;
    private static final int MOST_PLACE = 10;
    private static final int MOST_SIZE = 9;
    private static final int MOST_SIZES = 3;
    private static final int ALL_SIZES = 1022;
    private static final int MOST_LIMIT = 99;
    private static final int MOST_GAIN = 9;
    private static final int MOST_NEW_HOLES = 4;
    private static final int SHEETS = 4;
    private static final int MOST_ITEMS = 40;
    private static final int MOST_DOUBLINGS = 62;

    private static final int LEAST_INT = 1 << 31;
    private static final long LEAST_LONG = 1L << 63;

    private static final int FINDING_NULL = 1;
    private static final int FINDING_INDEX = 2;
    private static final int FINDING_SIZE = 3;

    /** A PULL is summed up by 20: a WAY is by 2 and a PLACE by 10. */
    private static final int PULL_BY = 20;

    /** a, b, c, e of the WAY of each ANGLE, each by 2. */
    private static final int[] WAYS = {
        2, 0, 0, 0, 0, 1, 1, 0, 1, 0, 0, 1, 0, 0, 2, 0, -1, 0, 0, 1, 0, -1, 1, 0,
        -2, 0, 0, 0, 0, -1, -1, 0, -1, 0, 0, -1, 0, 0, -2, 0, 1, 0, 0, -1, 0, 1, -1, 0
    };

    /** a, b of S of 0 to 6. */
    private static final int[] SPANS = {0, 0, 1, 0, 0, 1, 2, 0, 0, 1, 1, 0, 0, 0};

    private final Ring ring = new Ring();
    private final Num[] registers = new Num[REGISTERS];
    private final Num result = new Num();
    private final Num square = new Num();
    private final Rotor rotor = new Rotor();
    private final Bearings bearings = new Bearings();
    private final Search search = new Search();
    private final Splitter splitter = new Splitter();
    private final Sheets sheets = new Sheets();

    public RotorBalancer() {
        for (int r = 0; r < REGISTERS; r++) {
            registers[r] = new Num();
        }
    }

    // ---- numbers

    public int put(int r, int a, int b, int c, int e, int d) {
        if (isOutside(r, REGISTERS) || d < 1) {
            return BAD;
        }
        registers[r].become(a, b, c, e, d);
        registers[r].shorten();
        return 1;
    }

    public int read(int r, int s, int i) {
        if (isOutside(r, REGISTERS) || isOutside(s, SHEETS)) {
            return BAD;
        }
        if (sheets.isLost(s)) {
            return sheets.find(FINDING_NULL);
        }
        if (sheets.lacks(s, i, PARTS - 1)) {
            return sheets.find(FINDING_INDEX);
        }
        registers[r].become(
                sheets.item(s, i), sheets.item(s, i + 1), sheets.item(s, i + 2), sheets.item(s, i + 3), 1);
        return 1;
    }

    public int reckon(int what, int r, int s, int t) {
        if (isOutside(what, 4) || isOutside(r, REGISTERS) || isOutside(s, REGISTERS) || isOutside(t, REGISTERS)) {
            return BAD;
        }
        Num x = registers[r];
        Num y = registers[s];
        if (what == 3 && y.isZero()) {
            return ZERO;
        }
        boolean stands;
        switch (what) {
            case 0:
                stands = ring.sum(x, y, registers[t]);
                break;
            case 1:
                stands = ring.difference(x, y, registers[t]);
                break;
            case 2:
                stands = ring.product(x, y, registers[t]);
                break;
            default:
                stands = ring.quotient(x, y, registers[t]);
                break;
        }
        return stands ? 1 : OVER;
    }

    public long part(int r, int part) {
        if (isOutside(r, REGISTERS) || isOutside(part, PARTS)) {
            return asLong(BAD);
        }
        return registers[r].item(part);
    }

    public int compare(int r, int s) {
        if (isOutside(r, REGISTERS) || isOutside(s, REGISTERS)) {
            return LEAST_INT;
        }
        if (!ring.difference(registers[r], registers[s], result)) {
            return OVER;
        }
        if (result.isTurned()) {
            return NOT;
        }
        return ring.sign(result.item(0), result.item(1));
    }

    // ---- the rotor

    public int lump(int moment, int angle, int place) {
        if (isNoMoment(moment) || isOutside(angle, ANGLES) || isOutside(place, MOST_PLACE + 1)) {
            return BAD;
        }
        if (rotor.lumps() == MOST_LUMPS) {
            return FULL;
        }
        rotor.addLump(moment, angle, place);
        bearings.forget();
        return rotor.lumps() - 1;
    }

    public int unlump() {
        if (rotor.lumps() == 0) {
            return NOT;
        }
        rotor.dropLump();
        bearings.forget();
        return rotor.lumps();
    }

    public int drill(int plane, int angle, int size) {
        if (isOutside(plane, PLANES) || isOutside(angle, ANGLES) || size < 1 || size > MOST_SIZE) {
            return BAD;
        }
        if ((rotor.openBits(plane) >> angle & 1) == 0) {
            return NOT;
        }
        makeHole(plane, angle, size);
        return rotor.holes(plane);
    }

    public int fill(int plane, int angle) {
        if (isOutside(plane, PLANES) || isOutside(angle, ANGLES)) {
            return BAD;
        }
        int size = rotor.sizeAt(plane, angle);
        if (size == 0) {
            return NOT;
        }
        makeHole(plane, angle, 0);
        return size;
    }

    public int hole(int plane, int angle) {
        if (isOutside(plane, PLANES) || isOutside(angle, ANGLES)) {
            return BAD;
        }
        return rotor.sizeAt(plane, angle);
    }

    public int lawful(int plane, int bits) {
        if (isOutside(plane, PLANES) || isOutside(bits, ALL_ANGLES + 1)) {
            return BAD;
        }
        int before = rotor.lawfulBits(plane);
        rotor.tellLawful(plane, bits);
        return before;
    }

    public int sizes(int bits) {
        if ((bits & ~ALL_SIZES) != 0 || bits == 0 || Integer.bitCount(bits) > MOST_SIZES) {
            return BAD;
        }
        int before = rotor.sizeBits();
        rotor.tellSizes(bits);
        return before;
    }

    public int limit(int v) {
        if (isOutside(v, MOST_LIMIT + 1)) {
            return BAD;
        }
        int before = rotor.reach();
        rotor.tellReach(v);
        return before;
    }

    public long pull(int plane, int part) {
        if (isOutside(plane, PLANES) || isOutside(part, 2 * PARTS)) {
            return asLong(BAD);
        }
        takePull(plane);
        return part < PARTS ? result.item(part) : square.item(part - PARTS);
    }

    public int quiet(int plane) {
        if (isOutside(plane, PLANES)) {
            return BAD;
        }
        return search.isQuiet(rotor, plane) ? 1 : 0;
    }

    // ---- bearings, trials

    public int bearing(int b, int plane, int what, int v) {
        if (isOutside(b, BEARINGS) || isOutside(plane, PLANES) || isOutside(what, 2)
                || isOutside(v, what == 0 ? MOST_GAIN + 1 : ANGLES)) {
            return BAD;
        }
        int before = bearings.setting(b, plane, what);
        bearings.tell(b, plane, what, v);
        return before;
    }

    public int trial(int k, int moment, int angle) {
        if (isOutside(k, TRIALS) || k != 0 && (isNoMoment(moment) || isOutside(angle, ANGLES))) {
            return BAD;
        }
        bearings.runTrial(rotor, k, moment, angle);
        return bearings.keptTrials();
    }

    public long reading(int k, int b, int part) {
        if (isOutside(k, TRIALS) || isOutside(b, BEARINGS) || isOutside(part, PARTS)) {
            return asLong(BAD);
        }
        return bearings.isKept(k) ? bearings.readingOf(k, b).item(part) : asLong(NOT);
    }

    public int found(int plane, int r) {
        if (isOutside(plane, PLANES) || isOutside(r, REGISTERS)) {
            return BAD;
        }
        if (bearings.keptTrials() < TRIALS) {
            return NOT;
        }
        int answer = bearings.unbalance(plane, result);
        if (answer == 1) {
            registers[r].take(result);
        }
        return answer;
    }

    public int effect(int plane, int b, int r) {
        if (isOutside(plane, PLANES) || isOutside(b, BEARINGS) || isOutside(r, REGISTERS)) {
            return BAD;
        }
        if (!bearings.isKept(0) || !bearings.isKept(plane + 1)) {
            return NOT;
        }
        if (!bearings.effectOf(plane, b, result)) {
            return OVER;
        }
        registers[r].take(result);
        return 1;
    }

    // ---- holes

    public int fewest(int plane, int n, int what) {
        if (isOutside(plane, PLANES) || isOutside(n, MOST_NEW_HOLES + 1) || isOutside(what, 3)) {
            return BAD;
        }
        search.seek(rotor, plane, n);
        return search.told(what);
    }

    public int drillAll(int plane, int n) {
        if (isOutside(plane, PLANES) || isOutside(n, MOST_NEW_HOLES + 1)) {
            return BAD;
        }
        search.seek(rotor, plane, n);
        int holes = search.told(0);
        if (holes == NONE) {
            return NOT;
        }
        for (int i = 0; i < holes; i++) {
            makeHole(plane, search.angleOf(i), search.sizeOf(i));
        }
        return holes;
    }

    public int split(int plane, int angle, int moment, int what) {
        if (isOutside(plane, PLANES) || isOutside(angle, ANGLES) || isNoMoment(moment) || isOutside(what, 8)) {
            return BAD;
        }
        if (!splitter.share(rotor.lawfulBits(plane), angle, moment)) {
            return NOT;
        }
        return splitter.told(what);
    }

    public int nearest(int plane, int v) {
        if (isOutside(plane, PLANES)) {
            return BAD;
        }
        // The float keeps 24 bits of v. All that is done with it behind that is exact as a float,
        // so eighths of a degree in whole numbers tell the same.
        int eighths = (int) ((long) (float) v % (360 * 8));
        if (eighths < 0) {
            eighths += 360 * 8;
        }
        int best = NONE;
        int bestFar = 0;
        for (int k = 0; k < ANGLES; k++) {
            int far = Math.abs(eighths - k * 30 * 8);
            far = Math.min(far, 360 * 8 - far);
            if (rotor.isLawful(plane, k) && (best == NONE || far < bestFar)) {
                best = k;
                bestFar = far;
            }
        }
        return best;
    }

    // ---- sheets

    public int sheet(int s, int n) {
        if (isOutside(s, SHEETS) || n > MOST_ITEMS) {
            return BAD;
        }
        if (n < 0) {
            return sheets.find(FINDING_SIZE);
        }
        sheets.renew(s, n);
        return n;
    }

    public int lose(int s) {
        if (isOutside(s, SHEETS)) {
            return BAD;
        }
        if (sheets.isLost(s)) {
            return sheets.find(FINDING_NULL);
        }
        int before = sheets.items(s);
        sheets.drop(s);
        return before;
    }

    public int lay(int s, int i, int v, int often) {
        if (isOutside(s, SHEETS) || isOutside(often, MOST_DOUBLINGS + 1)) {
            return BAD;
        }
        if (sheets.isLost(s)) {
            return sheets.find(FINDING_NULL);
        }
        if (sheets.lacks(s, i, 1)) {
            return sheets.find(FINDING_INDEX);
        }
        sheets.store(s, i, (long) v << often);
        return 1;
    }

    public long get(int s, int i) {
        if (isOutside(s, SHEETS)) {
            return asLong(BAD);
        }
        if (sheets.isLost(s)) {
            return asLong(sheets.find(FINDING_NULL));
        }
        if (sheets.lacks(s, i, 1)) {
            return asLong(sheets.find(FINDING_INDEX));
        }
        return sheets.item(s, i);
    }

    public int copy(int s, int i, int t, int j, int n) {
        if (isOutside(s, SHEETS) || isOutside(t, SHEETS)) {
            return BAD;
        }
        if (sheets.isLost(s) || sheets.isLost(t)) {
            return sheets.find(FINDING_NULL);
        }
        if (n < 0 || sheets.lacks(s, i, n) || sheets.lacks(t, j, n)) {
            return sheets.find(FINDING_INDEX);
        }
        sheets.move(s, i, t, j, n);
        return 1;
    }

    public int write(int s) {
        if (isOutside(s, SHEETS)) {
            return BAD;
        }
        if (sheets.isLost(s)) {
            return sheets.find(FINDING_NULL);
        }
        int written = Math.min(sheets.items(s), REGISTERS * PARTS);
        for (int i = 0; i < written; i++) {
            sheets.store(s, i, registers[i / PARTS].item(i % PARTS));
        }
        return written;
    }

    public int count(int what) {
        switch (what) {
            case 0:
                return rotor.lumps();
            case 1:
            case 2:
                return rotor.holes(what - 1);
            case 3:
                return bearings.keptTrials();
            case 4:
            case 5:
                return search.isQuiet(rotor, what - 4) ? 1 : 0;
            case 6:
                return rotor.reach();
            case 7:
                return rotor.sizeBits();
            case 8:
                return sheets.latestFinding();
            default:
                return BAD;
        }
    }

    public long digest() {
        long h = 17;
        for (int what = 0; what < 8; what++) {
            h = 31 * h + count(what);
        }
        for (int r = 0; r < REGISTERS; r++) {
            h = mixNum(h, registers[r]);
        }
        for (int plane = 0; plane < PLANES; plane++) {
            h = mixPlane(h, plane);
        }
        for (int k = 0; k < TRIALS; k++) {
            for (int b = 0; b < BEARINGS; b++) {
                for (int part = 0; part < PARTS; part++) {
                    h = 31 * h + reading(k, b, part);
                }
            }
        }
        return h;
    }

    private long mixPlane(long before, int plane) {
        takePull(plane);
        long h = mixNum(mixNum(before, result), square);
        for (int k = 0; k < ANGLES; k++) {
            h = 31 * h + hole(plane, k);
            h = 31 * h + split(plane, k, 5, 0);
            h = 31 * h + split(plane, k, 5, 4);
        }
        search.seek(rotor, plane, 2);
        for (int what = 0; what < 3; what++) {
            h = 31 * h + search.told(what);
        }
        return h;
    }

    private static long mixNum(long before, Num x) {
        long h = before;
        for (int part = 0; part < PARTS; part++) {
            h = 31 * h + x.item(part);
        }
        return h;
    }

    /** PULL of a PLANE comes to result, its SQUARE to square; both are far below where longs end. */
    private void takePull(int plane) {
        rotor.takePullBy20(plane, result);
        result.shorten();
        square.take(result);
        square.mirror();
        ring.product(result, square, square);
    }

    private void makeHole(int plane, int angle, int size) {
        rotor.setHole(plane, angle, size);
        bearings.forget();
    }

    private static boolean isOutside(int v, int end) {
        return v < 0 || v >= end;
    }

    private static boolean isNoMoment(int moment) {
        return moment < 1 || moment > MOST_MOMENT;
    }

    /** A refusal where the answer is a long. */
    private static long asLong(int refusal) {
        return LEAST_LONG - refusal;
    }

    /** A NUMBER: (a and b ROOTS and, TURNED, c and e ROOTS) by d. */
    private static final class Num {
        /** Euclid's steps on longs are never more than some ninety. */
        private static final int MOST_STEPS = 1000;

        long a;
        long b;
        long c;
        long e;
        long d = 1;

        void become(long newA, long newB, long newC, long newE, long newD) {
            a = newA;
            b = newB;
            c = newC;
            e = newE;
            d = newD;
        }

        void take(Num other) {
            become(other.a, other.b, other.c, other.e, other.d);
        }

        long item(int part) {
            switch (part) {
                case 0:
                    return a;
                case 1:
                    return b;
                case 2:
                    return c;
                case 3:
                    return e;
                default:
                    return d;
            }
        }

        boolean isZero() {
            return a == 0 && b == 0 && !isTurned();
        }

        boolean isTurned() {
            return c != 0 || e != 0;
        }

        /** Only for numbers whose c and e have their opposites among longs. */
        void mirror() {
            c = -c;
            e = -e;
        }

        /** The WAY of an ANGLE so often more, without its being by 2. */
        void addWay(int often, int angle) {
            int i = 4 * angle;
            a += (long) often * WAYS[i];
            b += (long) often * WAYS[i + 1];
            c += (long) often * WAYS[i + 2];
            e += (long) often * WAYS[i + 3];
        }

        /** The NUMBER becomes so often the WAY of an ANGLE. */
        void becomeWay(int often, int angle) {
            become(0, 0, 0, 0, 2);
            addWay(often, angle);
            shorten();
        }

        void shorten() {
            long g = common(common(common(common(d, a), b), c), e);
            if (g > 1) {
                become(a / g, b / g, c / g, e / g, d / g);
            }
        }

        /** Begins with the rest by g, so that the least long never needs an opposite. */
        private static long common(long g, long x) {
            long u = g;
            long v = u > 0 ? Math.abs(x % u) : 0;
            for (int step = 0; v > 0 && step < MOST_STEPS; step++) {
                long rest = u % v;
                u = v;
                v = rest;
            }
            return u;
        }
    }

    /** What NUMBERS come to; an act that would be OVER answers false and changes nothing. */
    private static final class Ring {
        private boolean over;
        private final Num turned = new Num();
        private final Num factor = new Num();
        private final Num inverse = new Num();

        boolean sum(Num x, Num y, Num to) {
            over = false;
            long a = plus(times(x.a, y.d), times(y.a, x.d));
            long b = plus(times(x.b, y.d), times(y.b, x.d));
            long c = plus(times(x.c, y.d), times(y.c, x.d));
            long e = plus(times(x.e, y.d), times(y.e, x.d));
            return deliver(to, a, b, c, e, times(x.d, y.d));
        }

        boolean difference(Num x, Num y, Num to) {
            over = false;
            long a = less(times(x.a, y.d), times(y.a, x.d));
            long b = less(times(x.b, y.d), times(y.b, x.d));
            long c = less(times(x.c, y.d), times(y.c, x.d));
            long e = less(times(x.e, y.d), times(y.e, x.d));
            return deliver(to, a, b, c, e, times(x.d, y.d));
        }

        boolean product(Num x, Num y, Num to) {
            over = false;
            long a = less(
                    plus(times(x.a, y.a), thrice(x.b, y.b)),
                    plus(times(x.c, y.c), thrice(x.e, y.e)));
            long b = less(
                    plus(times(x.a, y.b), times(x.b, y.a)),
                    plus(times(x.c, y.e), times(x.e, y.c)));
            long c = plus(
                    plus(plus(times(x.a, y.c), thrice(x.b, y.e)), times(x.c, y.a)),
                    thrice(x.e, y.b));
            long e = plus(
                    plus(plus(times(x.a, y.e), times(x.b, y.c)), times(x.c, y.b)),
                    times(x.e, y.a));
            return deliver(to, a, b, c, e, times(x.d, y.d));
        }

        /** False, too, if y is 0: whoever calls asks for that first. */
        boolean quotient(Num x, Num y, Num to) {
            if (y.isZero()) {
                return false;
            }
            over = false;
            turned.become(y.a, y.b, less(0, y.c), less(0, y.e), 1);
            factor.become(y.a, y.b, y.c, y.e, 1);
            if (over || !product(factor, turned, factor)) {
                return false;
            }
            // T is the product of N and N with its root's sign changed, both sums of two squares:
            // it is above 0 for all but 0, so no signs have to be changed for it.
            long t = less(times(factor.a, factor.a), thrice(factor.b, factor.b));
            factor.become(factor.a, less(0, factor.b), 0, 0, 1);
            if (over || !product(turned, factor, inverse)) {
                return false;
            }
            factor.become(y.d, 0, 0, 0, 1);
            if (!product(inverse, factor, inverse)) {
                return false;
            }
            inverse.d = t;
            inverse.shorten();
            return product(x, inverse, to);
        }

        /** SIGN of a and b ROOTS, or OVER: the squares are looked at only if the signs are unlike. */
        int sign(long a, long b) {
            int ofA = Long.signum(a);
            int ofB = Long.signum(b);
            if (ofA == ofB || ofB == 0) {
                return ofA;
            }
            if (ofA == 0) {
                return ofB;
            }
            over = false;
            boolean isMore = times(a, a) > thrice(b, b);
            if (over) {
                return OVER;
            }
            return isMore ? ofA : ofB;
        }

        private boolean deliver(Num to, long a, long b, long c, long e, long d) {
            if (over) {
                return false;
            }
            to.become(a, b, c, e, d);
            to.shorten();
            return true;
        }

        private long plus(long x, long y) {
            long r = x + y;
            if (((x ^ r) & (y ^ r)) < 0) {
                over = true;
            }
            return r;
        }

        private long less(long x, long y) {
            long r = x - y;
            if (((x ^ y) & (x ^ r)) < 0) {
                over = true;
            }
            return r;
        }

        private long times(long x, long y) {
            long r = x * y;
            // The least long by -1 is itself again in this language, so that pair is asked for by name.
            if (y != 0 && (r / y != x || y == -1 && x == LEAST_LONG)) {
                over = true;
            }
            return r;
        }

        /** 3 x y, from the left. */
        private long thrice(long x, long y) {
            return times(times(3, x), y);
        }
    }

    /** LUMPS, HOLES and what is told about them. Whoever calls has looked at the numbers. */
    private static final class Rotor {
        private int lumps = 0;
        private final int[] moments = new int[MOST_LUMPS];
        private final int[] angles = new int[MOST_LUMPS];
        private final int[] places = new int[MOST_LUMPS];
        private final int[] holeSizes = new int[PLANES * ANGLES];
        private final int[] lawfulBits = new int[PLANES];
        private int sizeBits = 1 << 1 | 1 << 2 | 1 << 4;
        private int reach = 1;

        Rotor() {
            for (int plane = 0; plane < PLANES; plane++) {
                lawfulBits[plane] = ALL_ANGLES;
            }
        }

        int lumps() {
            return lumps;
        }

        void addLump(int moment, int angle, int place) {
            moments[lumps] = moment;
            angles[lumps] = angle;
            places[lumps] = place;
            lumps++;
        }

        void dropLump() {
            lumps--;
        }

        /** SIZE of the HOLE there; 0: none. */
        int sizeAt(int plane, int angle) {
            return holeSizes[plane * ANGLES + angle];
        }

        void setHole(int plane, int angle, int size) {
            holeSizes[plane * ANGLES + angle] = size;
        }

        int holes(int plane) {
            int n = 0;
            for (int k = 0; k < ANGLES; k++) {
                if (sizeAt(plane, k) != 0) {
                    n++;
                }
            }
            return n;
        }

        int lawfulBits(int plane) {
            return lawfulBits[plane];
        }

        void tellLawful(int plane, int bits) {
            lawfulBits[plane] = bits;
        }

        boolean isLawful(int plane, int angle) {
            return (lawfulBits[plane] >> angle & 1) != 0;
        }

        /** ANGLES where a HOLE may be made. */
        int openBits(int plane) {
            int bits = lawfulBits[plane];
            for (int k = 0; k < ANGLES; k++) {
                if (sizeAt(plane, k) != 0) {
                    bits &= ~(1 << k);
                }
            }
            return bits;
        }

        int sizeBits() {
            return sizeBits;
        }

        void tellSizes(int bits) {
            sizeBits = bits;
        }

        int reach() {
            return reach;
        }

        void tellReach(int v) {
            reach = v;
        }

        /** PULL of a PLANE, by 20, not in lowest terms. */
        void takePullBy20(int plane, Num to) {
            to.become(0, 0, 0, 0, PULL_BY);
            for (int i = 0; i < lumps; i++) {
                to.addWay(moments[i] * (plane == 0 ? MOST_PLACE - places[i] : places[i]), angles[i]);
            }
            for (int k = 0; k < ANGLES; k++) {
                to.addWay(-MOST_PLACE * sizeAt(plane, k), k);
            }
        }
    }

    /**
     * BEARINGS and TRIALS. PULLS are below 1000 and GAINS below 10, so that READINGS are far from where
     * longs end and are taken without asking whether a sum is OVER.
     */
    private static final class Bearings {
        private final Ring ring = new Ring();
        /** GAIN and LAG of PLANE p in BEARING b at 2 (2 b + p) and behind it. */
        private final int[] settings = new int[2 * PLANES * BEARINGS];
        private final boolean[] kept = new boolean[TRIALS];
        private final Num[] readings = new Num[TRIALS * BEARINGS];
        private final Num[] weights = new Num[TRIALS];
        /** EFFECT of PLANE p on BEARING b at 2 p + b. */
        private final Num[] effects = new Num[PLANES * BEARINGS];
        private final Num pull = new Num();
        private final Num factor = new Num();
        private final Num determinant = new Num();
        private final Num other = new Num();

        Bearings() {
            for (int i = 0; i < readings.length; i++) {
                readings[i] = new Num();
            }
            for (int k = 0; k < TRIALS; k++) {
                weights[k] = new Num();
            }
            for (int i = 0; i < effects.length; i++) {
                effects[i] = new Num();
            }
            for (int b = 0; b < BEARINGS; b++) {
                for (int plane = 0; plane < PLANES; plane++) {
                    settings[2 * (2 * b + plane)] = plane == b ? 2 : 1;
                }
            }
        }

        /** GAIN (what = 0), LAG (1). */
        int setting(int b, int plane, int what) {
            return settings[2 * (2 * b + plane) + what];
        }

        void tell(int b, int plane, int what, int v) {
            settings[2 * (2 * b + plane) + what] = v;
            forget();
        }

        void forget() {
            for (int k = 0; k < TRIALS; k++) {
                kept[k] = false;
            }
        }

        boolean isKept(int k) {
            return kept[k];
        }

        int keptTrials() {
            int n = 0;
            for (int k = 0; k < TRIALS; k++) {
                n += kept[k] ? 1 : 0;
            }
            return n;
        }

        Num readingOf(int k, int b) {
            return readings[BEARINGS * k + b];
        }

        void runTrial(Rotor rotor, int k, int moment, int angle) {
            if (k > 0) {
                weights[k].becomeWay(moment, angle);
            }
            for (int b = 0; b < BEARINGS; b++) {
                takeReading(rotor, k, b, readingOf(k, b));
            }
            kept[k] = true;
        }

        private void takeReading(Rotor rotor, int k, int b, Num to) {
            to.become(0, 0, 0, 0, 1);
            for (int plane = 0; plane < PLANES; plane++) {
                rotor.takePullBy20(plane, pull);
                pull.shorten();
                if (k == plane + 1) {
                    ring.sum(pull, weights[k], pull);
                }
                factor.becomeWay(setting(b, plane, 0), setting(b, plane, 1));
                ring.product(pull, factor, pull);
                ring.sum(to, pull, to);
            }
        }

        /** False: OVER. */
        boolean effectOf(int plane, int b, Num to) {
            return ring.difference(readingOf(plane + 1, b), readingOf(0, b), to)
                    && ring.quotient(to, weights[plane + 1], to);
        }

        /** FOUND in a PLANE: 1, ZERO or OVER. */
        int unbalance(int plane, Num to) {
            for (int i = 0; i < effects.length; i++) {
                if (!effectOf(i / BEARINGS, i % BEARINGS, effects[i])) {
                    return OVER;
                }
            }
            if (!cross(effects[0], effects[3], effects[2], effects[1], determinant)) {
                return OVER;
            }
            if (determinant.isZero()) {
                return ZERO;
            }
            Num at0 = readingOf(0, 0);
            Num at1 = readingOf(0, 1);
            boolean stands = plane == 0
                    ? cross(at0, effects[3], effects[2], at1, to)
                    : cross(effects[0], at1, at0, effects[1], to);
            return stands && ring.quotient(to, determinant, to) ? 1 : OVER;
        }

        /** x y less z w. */
        private boolean cross(Num x, Num y, Num z, Num w, Num to) {
            return ring.product(x, y, to) && ring.product(z, w, other) && ring.difference(to, other, to);
        }
    }

    /** QUIET, and FEWEST: sets of so many HOLES are gone through in their order, few HOLES first. */
    private static final class Search {
        private final Ring ring = new Ring();
        private final int[] sizes = new int[MOST_SIZES];
        private int sizeCount;
        private int openBits;
        private int reach;
        private int wanted;
        /** What is left of the PULL behind so many HOLES, by 20. */
        private final Num[] pulls = new Num[MOST_NEW_HOLES + 1];
        private final int[] angles = new int[MOST_NEW_HOLES];
        private final int[] chosen = new int[MOST_NEW_HOLES];
        private int bestCount;
        private final int[] bestAngles = new int[MOST_NEW_HOLES];
        private final int[] bestSizes = new int[MOST_NEW_HOLES];
        private long bestWhole;
        private long bestRoots;

        Search() {
            for (int i = 0; i < pulls.length; i++) {
                pulls[i] = new Num();
            }
        }

        boolean isQuiet(Rotor rotor, int plane) {
            rotor.takePullBy20(plane, pulls[0]);
            return isWithin(pulls[0], rotor.reach());
        }

        void seek(Rotor rotor, int plane, int most) {
            listSizes(rotor.sizeBits());
            openBits = rotor.openBits(plane);
            reach = rotor.reach();
            rotor.takePullBy20(plane, pulls[0]);
            bestCount = NONE;
            for (int n = 0; n <= most && bestCount == NONE; n++) {
                wanted = n;
                extend(this, 0, 0);
            }
        }

        /** How many HOLES (what = 0), ANGLES as bits (1), SIZES as figures (2). */
        int told(int what) {
            if (what == 0) {
                return bestCount;
            }
            int bits = 0;
            int figures = 0;
            for (int i = 0; i < bestCount; i++) {
                bits |= 1 << bestAngles[i];
                figures = 10 * figures + bestSizes[i];
            }
            return what == 1 ? bits : figures;
        }

        int angleOf(int i) {
            return bestAngles[i];
        }

        int sizeOf(int i) {
            return bestSizes[i];
        }

        private void listSizes(int bits) {
            sizeCount = 0;
            for (int size = 1; size <= MOST_SIZE; size++) {
                if ((bits >> size & 1) != 0 && sizeCount < MOST_SIZES) {
                    sizes[sizeCount] = size;
                    sizeCount++;
                }
            }
        }

        /** Goes through all sets that begin with the first so many HOLES as they are, and go on at ANGLE from. */
        private static void extend(Search x, int depth, int from) {
            int left = x.wanted - depth;
            if (depth > MOST_NEW_HOLES || !x.isWithin(x.pulls[depth], x.reach + left * x.mostSize())) {
                // A HOLE takes no more than its SIZE away: what is farther off than that is never QUIET.
                return;
            }
            if (left <= 0) {
                x.keepIfBetter();
                return;
            }
            for (int angle = from; angle <= ANGLES - left; angle++) {
                for (int i = 0; i < x.sizeCount && (x.openBits >> angle & 1) != 0; i++) {
                    x.choose(depth, angle, x.sizes[i]);
                    extend(x, depth + 1, angle + 1);
                }
            }
        }

        private int mostSize() {
            return sizeCount > 0 ? sizes[sizeCount - 1] : 0;
        }

        private void choose(int depth, int angle, int size) {
            angles[depth] = angle;
            chosen[depth] = size;
            pulls[depth + 1].take(pulls[depth]);
            pulls[depth + 1].addWay(-MOST_PLACE * size, angle);
        }

        private void keepIfBetter() {
            long whole = squareWhole(pulls[wanted]);
            long roots = squareRoots(pulls[wanted]);
            if (bestCount != NONE && ring.sign(whole - bestWhole, roots - bestRoots) >= 0) {
                return;
            }
            bestCount = wanted;
            bestWhole = whole;
            bestRoots = roots;
            for (int i = 0; i < wanted; i++) {
                bestAngles[i] = angles[i];
                bestSizes[i] = chosen[i];
            }
        }

        /** Whether the SQUARE of a PULL by 20 is no more than far times far; no square here comes near where longs end. */
        private boolean isWithin(Num pull, int far) {
            long by = PULL_BY * far;
            return ring.sign(squareWhole(pull) - by * by, squareRoots(pull)) <= 0;
        }

        private static long squareWhole(Num x) {
            return x.a * x.a + 3 * x.b * x.b + x.c * x.c + 3 * x.e * x.e;
        }

        private static long squareRoots(Num x) {
            return 2 * (x.a * x.b + x.c * x.e);
        }
    }

    /** SPLIT of a MOMENT over the LAWFUL neighbours of an ANGLE. */
    private static final class Splitter {
        private int down;
        private int up;
        private final Num atDown = new Num();
        private final Num atUp = new Num();

        /** False: there is none. */
        boolean share(int lawfulBits, int angle, int moment) {
            if ((lawfulBits >> angle & 1) != 0) {
                down = angle;
                up = NONE;
                atDown.become(moment, 0, 0, 0, 1);
                atUp.become(0, 0, 0, 0, 1);
                return true;
            }
            int i = far(lawfulBits, angle, ANGLES - 1);
            int j = far(lawfulBits, angle, 1);
            if (i + j >= HALF_ROUND) {
                return false;
            }
            down = (angle + ANGLES - i) % ANGLES;
            up = (angle + j) % ANGLES;
            apportion(moment, j, i + j, atDown);
            apportion(moment, i, i + j, atUp);
            return true;
        }

        int told(int what) {
            switch (what) {
                case 0:
                    return down;
                case 1:
                    return (int) atDown.item(0);
                case 2:
                    return (int) atDown.item(1);
                case 3:
                    return (int) atDown.item(4);
                case 4:
                    return up;
                case 5:
                    return (int) atUp.item(0);
                case 6:
                    return (int) atUp.item(1);
                default:
                    return (int) atUp.item(4);
            }
        }

        /** How many such steps it is to the nearest LAWFUL ANGLE; 12: there is none. */
        private static int far(int lawfulBits, int angle, int step) {
            for (int i = 1; i < ANGLES; i++) {
                if ((lawfulBits >> (angle + step * i) % ANGLES & 1) != 0) {
                    return i;
                }
            }
            return ANGLES;
        }

        /** The MOMENT times S of part by S of whole, which is 2 to 5: ROOT, 2, ROOT, 1. */
        private static void apportion(int moment, int part, int whole, Num to) {
            int a = moment * SPANS[2 * part];
            int b = moment * SPANS[2 * part + 1];
            if (whole == 5) {
                to.become(a, b, 0, 0, 1);
            } else if (whole == 3) {
                to.become(a, b, 0, 0, 2);
            } else {
                // By ROOT is times ROOT by 3.
                to.become(3 * b, a, 0, 0, 3);
            }
            to.shorten();
        }
    }

    /** SHEETS, each in a row made once, and the latest FINDING. Whoever calls has looked at the numbers. */
    private static final class Sheets {
        private static final int LOST = -1;

        private final long[][] rows = new long[SHEETS][MOST_ITEMS];
        private final int[] items = new int[SHEETS];
        private int latestFinding = 0;

        Sheets() {
            for (int s = 0; s < SHEETS; s++) {
                items[s] = LOST;
            }
        }

        /** Keeps the FINDING's number; answers its refusal. */
        int find(int number) {
            latestFinding = number;
            return -10 - number;
        }

        int latestFinding() {
            return latestFinding;
        }

        boolean isLost(int s) {
            return items[s] == LOST;
        }

        /** Whether not all n items from i on are there. */
        boolean lacks(int s, int i, int n) {
            return i < 0 || i > items[s] - n;
        }

        int items(int s) {
            return items[s];
        }

        void renew(int s, int n) {
            items[s] = n;
            for (int i = 0; i < n; i++) {
                rows[s][i] = 0;
            }
        }

        void drop(int s) {
            items[s] = LOST;
        }

        long item(int s, int i) {
            return rows[s][i];
        }

        void store(int s, int i, long v) {
            rows[s][i] = v;
        }

        void move(int s, int i, int t, int j, int n) {
            System.arraycopy(rows[s], i, rows[t], j, n);
        }
    }
}
