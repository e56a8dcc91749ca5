import java.math.BigInteger;
import java.util.ArrayList;
import java.util.List;

/**
 * A second, slow telling of the document, to hold the class against: numbers are BigIntegers that are
 * looked at after each step, sets of holes are all gone through, nothing is pruned.
 */
final class Model {
    private static final int BAD = -2, NOT = -3, FULL = -4, OVER = -5, ZERO = -6;
    private static final BigInteger LEAST = BigInteger.valueOf(Long.MIN_VALUE);
    private static final BigInteger MOST = BigInteger.valueOf(Long.MAX_VALUE);
    private static final BigInteger THREE = BigInteger.valueOf(3);
    private static final BigInteger NOUGHT = BigInteger.ZERO;

    private static final class Over extends RuntimeException {
        private static final long serialVersionUID = 1;
    }

    private static final class Refusal extends RuntimeException {
        private static final long serialVersionUID = 1;
        final int code;

        Refusal(int code) {
            this.code = code;
        }
    }

    /** a, b, c, e, d. */
    private record Number(BigInteger a, BigInteger b, BigInteger c, BigInteger e, BigInteger d) {
        BigInteger part(int k) {
            return List.of(a, b, c, e, d).get(k);
        }

        boolean isNought() {
            return a.signum() == 0 && b.signum() == 0 && c.signum() == 0 && e.signum() == 0;
        }
    }

    private record Lump(int moment, int angle, int place) {
    }

    private record Hole(int angle, int size) {
    }

    private final Number[] registers = new Number[6];
    private final List<Lump> lumps = new ArrayList<>();
    private final int[][] holes = new int[2][12];
    private final int[] lawful = {4095, 4095};
    private int sizeBits = 22;
    private int limit = 1;
    private final int[][][] settings = {{{2, 0}, {1, 0}}, {{1, 0}, {2, 0}}};
    private final Number[][] readings = new Number[3][];
    private final Number[] weights = new Number[3];
    private final long[][] sheets = new long[4][];
    private int finding = 0;

    Model() {
        for (int r = 0; r < 6; r++) {
            registers[r] = whole(0);
        }
    }

    // ---- numbers by themselves

    private static BigInteger fit(BigInteger x) {
        if (x.compareTo(LEAST) < 0 || x.compareTo(MOST) > 0) {
            throw new Over();
        }
        return x;
    }

    private static BigInteger mul(BigInteger x, BigInteger... ys) {
        BigInteger r = x;
        for (BigInteger y : ys) {
            r = fit(r.multiply(y));
        }
        return r;
    }

    private static BigInteger add(BigInteger x, BigInteger... ys) {
        BigInteger r = x;
        for (BigInteger y : ys) {
            r = fit(r.add(y));
        }
        return r;
    }

    private static BigInteger sub(BigInteger x, BigInteger y) {
        return fit(x.subtract(y));
    }

    private static Number lowest(BigInteger a, BigInteger b, BigInteger c, BigInteger e, BigInteger d) {
        BigInteger g = a.gcd(b).gcd(c).gcd(e).gcd(d);
        return new Number(a.divide(g), b.divide(g), c.divide(g), e.divide(g), d.divide(g));
    }

    private static Number number(long a, long b, long c, long e, long d) {
        return lowest(BigInteger.valueOf(a), BigInteger.valueOf(b), BigInteger.valueOf(c), BigInteger.valueOf(e),
                BigInteger.valueOf(d));
    }

    private static Number whole(long a) {
        return number(a, 0, 0, 0, 1);
    }

    private static Number sum(Number x, Number y) {
        return lowest(
                add(mul(x.a, y.d), mul(y.a, x.d)), add(mul(x.b, y.d), mul(y.b, x.d)),
                add(mul(x.c, y.d), mul(y.c, x.d)), add(mul(x.e, y.d), mul(y.e, x.d)), mul(x.d, y.d));
    }

    private static Number difference(Number x, Number y) {
        return lowest(
                sub(mul(x.a, y.d), mul(y.a, x.d)), sub(mul(x.b, y.d), mul(y.b, x.d)),
                sub(mul(x.c, y.d), mul(y.c, x.d)), sub(mul(x.e, y.d), mul(y.e, x.d)), mul(x.d, y.d));
    }

    private static Number product(Number x, Number y) {
        BigInteger a = x.a, b = x.b, c = x.c, e = x.e, f = y.a, g = y.b, h = y.c, k = y.e;
        return lowest(
                sub(add(mul(a, f), mul(THREE, b, g)), add(mul(c, h), mul(THREE, e, k))),
                sub(add(mul(a, g), mul(b, f)), add(mul(c, k), mul(e, h))),
                add(mul(a, h), mul(THREE, b, k), mul(c, f), mul(THREE, e, g)),
                add(mul(a, k), mul(b, h), mul(c, g), mul(e, f)),
                mul(x.d, y.d));
    }

    private static Number mirror(Number x) {
        return new Number(x.a, x.b, fit(x.c.negate()), fit(x.e.negate()), x.d);
    }

    private static Number quotient(Number x, Number y) {
        if (y.isNought()) {
            throw new Refusal(ZERO);
        }
        Number top = new Number(y.a, y.b, y.c, y.e, BigInteger.ONE);
        Number n = product(top, mirror(top));
        BigInteger t = sub(mul(n.a, n.a), mul(THREE, n.b, n.b));
        Number other = new Number(n.a, fit(n.b.negate()), NOUGHT, NOUGHT, BigInteger.ONE);
        Number r = product(product(mirror(top), other), new Number(y.d, NOUGHT, NOUGHT, NOUGHT, BigInteger.ONE));
        BigInteger s = BigInteger.valueOf(t.signum());
        Number reciprocal = lowest(mul(r.a, s), mul(r.b, s), mul(r.c, s), mul(r.e, s), mul(t, s));
        return product(x, reciprocal);
    }

    /** Where no squares have to be looked at, none are. */
    private static int sign(BigInteger a, BigInteger b) {
        if (a.signum() * b.signum() >= 0) {
            return a.signum() != 0 ? a.signum() : b.signum();
        }
        BigInteger aa = mul(a, a);
        BigInteger bb = mul(THREE, b, b);
        return aa.compareTo(bb) > 0 ? a.signum() : b.signum();
    }

    private static Number way(int k) {
        switch (k) {
            case 0:
                return number(2, 0, 0, 0, 2);
            case 1:
                return number(0, 1, 1, 0, 2);
            case 2:
                return number(1, 0, 0, 1, 2);
            case 3:
                return number(0, 0, 2, 0, 2);
            case 4:
                return number(-1, 0, 0, 1, 2);
            case 5:
                return number(0, -1, 1, 0, 2);
            default:
                return product(way(k - 6), whole(-1));
        }
    }

    private static long least(int refusal) {
        return Long.MIN_VALUE - refusal;
    }

    private int find(int number) {
        finding = number;
        return -10 - number;
    }

    // ---- numbers

    int put(int r, int a, int b, int c, int e, int d) {
        if (r < 0 || r > 5 || d < 1) {
            return BAD;
        }
        registers[r] = number(a, b, c, e, d);
        return 1;
    }

    int read(int r, int s, int i) {
        if (r < 0 || r > 5 || s < 0 || s > 3) {
            return BAD;
        }
        if (sheets[s] == null) {
            return find(1);
        }
        for (int j = 0; j < 4; j++) {
            if (i < 0 || (long) i + j >= sheets[s].length) {
                return find(2);
            }
        }
        registers[r] = number(sheets[s][i], sheets[s][i + 1], sheets[s][i + 2], sheets[s][i + 3], 1);
        return 1;
    }

    int reckon(int what, int r, int s, int t) {
        if (what < 0 || what > 3 || r < 0 || r > 5 || s < 0 || s > 5 || t < 0 || t > 5) {
            return BAD;
        }
        Number x = registers[r];
        Number y = registers[s];
        try {
            registers[t] = what == 0 ? sum(x, y) : what == 1 ? difference(x, y)
                    : what == 2 ? product(x, y) : quotient(x, y);
            return 1;
        } catch (Over o) {
            return OVER;
        } catch (Refusal o) {
            return o.code;
        }
    }

    long part(int r, int part) {
        if (r < 0 || r > 5 || part < 0 || part > 4) {
            return least(BAD);
        }
        return registers[r].part(part).longValueExact();
    }

    int compare(int r, int s) {
        if (r < 0 || r > 5 || s < 0 || s > 5) {
            return Integer.MIN_VALUE;
        }
        try {
            Number x = difference(registers[r], registers[s]);
            return x.c.signum() != 0 || x.e.signum() != 0 ? NOT : sign(x.a, x.b);
        } catch (Over o) {
            return OVER;
        }
    }

    // ---- the rotor

    private Number pullOf(int plane) {
        Number r = whole(0);
        for (Lump l : lumps) {
            Number place = number(plane == 0 ? 10 - l.place : l.place, 0, 0, 0, 10);
            r = sum(r, product(product(whole(l.moment), way(l.angle)), place));
        }
        for (int k = 0; k < 12; k++) {
            r = difference(r, product(whole(holes[plane][k]), way(k)));
        }
        return r;
    }

    private static Number squareOf(Number pull) {
        return product(pull, mirror(pull));
    }

    private boolean isQuiet(Number pull) {
        Number x = difference(squareOf(pull), whole((long) limit * limit));
        return sign(x.a, x.b) <= 0;
    }

    private void forget() {
        for (int k = 0; k < 3; k++) {
            readings[k] = null;
        }
    }

    int lump(int moment, int angle, int place) {
        if (moment < 1 || moment > 99 || angle < 0 || angle > 11 || place < 0 || place > 10) {
            return BAD;
        }
        if (lumps.size() == 8) {
            return FULL;
        }
        lumps.add(new Lump(moment, angle, place));
        forget();
        return lumps.size() - 1;
    }

    int unlump() {
        if (lumps.isEmpty()) {
            return NOT;
        }
        lumps.remove(lumps.size() - 1);
        forget();
        return lumps.size();
    }

    private boolean isLawful(int plane, int angle) {
        return (lawful[plane] & 1 << angle) != 0;
    }

    int drill(int plane, int angle, int size) {
        if (plane < 0 || plane > 1 || angle < 0 || angle > 11 || size < 1 || size > 9) {
            return BAD;
        }
        if (!isLawful(plane, angle) || holes[plane][angle] != 0) {
            return NOT;
        }
        holes[plane][angle] = size;
        forget();
        return count(1 + plane);
    }

    int fill(int plane, int angle) {
        if (plane < 0 || plane > 1 || angle < 0 || angle > 11) {
            return BAD;
        }
        int size = holes[plane][angle];
        if (size == 0) {
            return NOT;
        }
        holes[plane][angle] = 0;
        forget();
        return size;
    }

    int hole(int plane, int angle) {
        if (plane < 0 || plane > 1 || angle < 0 || angle > 11) {
            return BAD;
        }
        return holes[plane][angle];
    }

    int lawful(int plane, int bits) {
        if (plane < 0 || plane > 1 || bits < 0 || bits > 4095) {
            return BAD;
        }
        int before = lawful[plane];
        lawful[plane] = bits;
        return before;
    }

    int sizes(int bits) {
        int n = 0;
        for (int i = 0; i < 32; i++) {
            if ((bits >>> i & 1) == 1) {
                n++;
                if (i < 1 || i > 9) {
                    return BAD;
                }
            }
        }
        if (n < 1 || n > 3) {
            return BAD;
        }
        int before = sizeBits;
        sizeBits = bits;
        return before;
    }

    int limit(int v) {
        if (v < 0 || v > 99) {
            return BAD;
        }
        int before = limit;
        limit = v;
        return before;
    }

    long pull(int plane, int part) {
        if (plane < 0 || plane > 1 || part < 0 || part > 9) {
            return least(BAD);
        }
        Number p = pullOf(plane);
        return (part < 5 ? p.part(part) : squareOf(p).part(part - 5)).longValueExact();
    }

    int quiet(int plane) {
        if (plane < 0 || plane > 1) {
            return BAD;
        }
        return isQuiet(pullOf(plane)) ? 1 : 0;
    }

    // ---- bearings, trials

    int bearing(int b, int plane, int what, int v) {
        if (b < 0 || b > 1 || plane < 0 || plane > 1 || what < 0 || what > 1 || v < 0 || v > (what == 0 ? 9 : 11)) {
            return BAD;
        }
        int before = settings[b][plane][what];
        settings[b][plane][what] = v;
        forget();
        return before;
    }

    int trial(int k, int moment, int angle) {
        if (k < 0 || k > 2 || k > 0 && (moment < 1 || moment > 99 || angle < 0 || angle > 11)) {
            return BAD;
        }
        weights[k] = k == 0 ? whole(0) : product(whole(moment), way(angle));
        readings[k] = new Number[2];
        for (int b = 0; b < 2; b++) {
            Number r = whole(0);
            for (int p = 0; p < 2; p++) {
                Number pull = p + 1 == k ? sum(pullOf(p), weights[k]) : pullOf(p);
                r = sum(r, product(product(pull, whole(settings[b][p][0])), way(settings[b][p][1])));
            }
            readings[k][b] = r;
        }
        return count(3);
    }

    long reading(int k, int b, int part) {
        if (k < 0 || k > 2 || b < 0 || b > 1 || part < 0 || part > 4) {
            return least(BAD);
        }
        return readings[k] == null ? least(NOT) : readings[k][b].part(part).longValueExact();
    }

    private Number effectOf(int p, int b) {
        return quotient(difference(readings[p + 1][b], readings[0][b]), weights[p + 1]);
    }

    int found(int plane, int r) {
        if (plane < 0 || plane > 1 || r < 0 || r > 5) {
            return BAD;
        }
        if (count(3) < 3) {
            return NOT;
        }
        try {
            Number d = difference(product(effectOf(0, 0), effectOf(1, 1)), product(effectOf(1, 0), effectOf(0, 1)));
            Number at0 = readings[0][0];
            Number at1 = readings[0][1];
            Number top = plane == 0
                    ? difference(product(at0, effectOf(1, 1)), product(effectOf(1, 0), at1))
                    : difference(product(effectOf(0, 0), at1), product(at0, effectOf(0, 1)));
            registers[r] = quotient(top, d);
            return 1;
        } catch (Over o) {
            return OVER;
        } catch (Refusal o) {
            return o.code;
        }
    }

    int effect(int plane, int b, int r) {
        if (plane < 0 || plane > 1 || b < 0 || b > 1 || r < 0 || r > 5) {
            return BAD;
        }
        if (readings[0] == null || readings[plane + 1] == null) {
            return NOT;
        }
        try {
            registers[r] = effectOf(plane, b);
            return 1;
        } catch (Over o) {
            return OVER;
        }
    }

    // ---- holes

    private List<Hole> best;
    private Number bestSquare;

    private List<Hole> fewestOf(int plane, int n) {
        best = null;
        for (int many = 0; many <= n && best == null; many++) {
            tryHoles(plane, many, new ArrayList<>(), 0, pullOf(plane));
        }
        return best;
    }

    private void tryHoles(int plane, int many, List<Hole> set, int from, Number pull) {
        if (set.size() == many) {
            Number square = squareOf(pull);
            if (isQuiet(pull) && (best == null || isLess(square, bestSquare))) {
                best = new ArrayList<>(set);
                bestSquare = square;
            }
            return;
        }
        for (int k = from; k < 12; k++) {
            for (int size = 1; size < 10; size++) {
                if (isLawful(plane, k) && holes[plane][k] == 0 && (sizeBits >> size & 1) == 1) {
                    set.add(new Hole(k, size));
                    tryHoles(plane, many, set, k + 1, difference(pull, product(whole(size), way(k))));
                    set.remove(set.size() - 1);
                }
            }
        }
    }

    private static boolean isLess(Number x, Number y) {
        Number z = difference(x, y);
        return sign(z.a, z.b) < 0;
    }

    int fewest(int plane, int n, int what) {
        if (plane < 0 || plane > 1 || n < 0 || n > 4 || what < 0 || what > 2) {
            return BAD;
        }
        List<Hole> set = fewestOf(plane, n);
        if (set == null) {
            return what == 0 ? -1 : 0;
        }
        int bits = 0;
        StringBuilder figures = new StringBuilder("0");
        for (Hole h : set) {
            bits += 1 << h.angle;
            figures.append(h.size);
        }
        return what == 0 ? set.size() : what == 1 ? bits : Integer.parseInt(figures.toString());
    }

    int drillAll(int plane, int n) {
        if (plane < 0 || plane > 1 || n < 0 || n > 4) {
            return BAD;
        }
        List<Hole> set = fewestOf(plane, n);
        if (set == null) {
            return NOT;
        }
        for (Hole h : set) {
            drill(plane, h.angle, h.size);
        }
        return set.size();
    }

    private static Number span(int k) {
        return k == 1 || k == 5 ? whole(1) : k == 3 ? whole(2) : k == 2 || k == 4 ? number(0, 1, 0, 0, 1) : whole(0);
    }

    int split(int plane, int angle, int moment, int what) {
        if (plane < 0 || plane > 1 || angle < 0 || angle > 11 || moment < 1 || moment > 99 || what < 0 || what > 7) {
            return BAD;
        }
        int down = angle;
        int up = angle;
        int i = 0;
        int j = 0;
        while (!isLawful(plane, down)) {
            down = down == 0 ? 11 : down - 1;
            if (++i > 12) {
                return NOT;
            }
        }
        while (!isLawful(plane, up)) {
            up = up == 11 ? 0 : up + 1;
            j++;
        }
        if (i + j >= 6) {
            return NOT;
        }
        Number atDown = whole(moment);
        Number atUp = whole(0);
        if (i == 0) {
            up = -1;
        } else {
            atDown = quotient(product(whole(moment), span(j)), span(i + j));
            atUp = quotient(product(whole(moment), span(i)), span(i + j));
        }
        int[] answers = {
            down, atDown.a.intValueExact(), atDown.b.intValueExact(), atDown.d.intValueExact(),
            up, atUp.a.intValueExact(), atUp.b.intValueExact(), atUp.d.intValueExact()
        };
        return answers[what];
    }

    int nearest(int plane, int v) {
        if (plane < 0 || plane > 1) {
            return BAD;
        }
        float degrees = (float) v / 8f % 360f;
        if (degrees < 0) {
            degrees += 360f;
        }
        int nearest = -1;
        float far = 1000f;
        for (int k = 0; k < 12; k++) {
            float f = Math.abs(30f * k - degrees);
            f = Math.min(f, 360f - f);
            if (isLawful(plane, k) && f < far) {
                nearest = k;
                far = f;
            }
        }
        return nearest;
    }

    // ---- sheets

    int sheet(int s, int n) {
        if (s < 0 || s > 3 || n > 40) {
            return BAD;
        }
        if (n < 0) {
            return find(3);
        }
        sheets[s] = new long[n];
        return n;
    }

    int lose(int s) {
        if (s < 0 || s > 3) {
            return BAD;
        }
        if (sheets[s] == null) {
            return find(1);
        }
        int before = sheets[s].length;
        sheets[s] = null;
        return before;
    }

    int lay(int s, int i, int v, int often) {
        if (s < 0 || s > 3 || often < 0 || often > 62) {
            return BAD;
        }
        if (sheets[s] == null) {
            return find(1);
        }
        if (i < 0 || i >= sheets[s].length) {
            return find(2);
        }
        long x = v;
        for (int k = 0; k < often; k++) {
            x = 2 * x;
        }
        sheets[s][i] = x;
        return 1;
    }

    long get(int s, int i) {
        if (s < 0 || s > 3) {
            return least(BAD);
        }
        if (sheets[s] == null) {
            return least(find(1));
        }
        if (i < 0 || i >= sheets[s].length) {
            return least(find(2));
        }
        return sheets[s][i];
    }

    int copy(int s, int i, int t, int j, int n) {
        if (s < 0 || s > 3 || t < 0 || t > 3) {
            return BAD;
        }
        if (sheets[s] == null || sheets[t] == null) {
            return find(1);
        }
        if (i < 0 || j < 0 || n < 0 || (long) i + n > sheets[s].length || (long) j + n > sheets[t].length) {
            return find(2);
        }
        long[] taken = new long[n];
        for (int k = 0; k < n; k++) {
            taken[k] = sheets[s][i + k];
        }
        for (int k = 0; k < n; k++) {
            sheets[t][j + k] = taken[k];
        }
        return 1;
    }

    int write(int s) {
        if (s < 0 || s > 3) {
            return BAD;
        }
        if (sheets[s] == null) {
            return find(1);
        }
        int n = 0;
        for (int r = 0; r < 6; r++) {
            for (int p = 0; p < 5; p++) {
                if (n < sheets[s].length) {
                    sheets[s][n++] = registers[r].part(p).longValueExact();
                }
            }
        }
        return n;
    }

    int count(int what) {
        int n = 0;
        switch (what) {
            case 0:
                return lumps.size();
            case 1:
            case 2:
                for (int size : holes[what - 1]) {
                    n += size > 0 ? 1 : 0;
                }
                return n;
            case 3:
                for (Number[] r : readings) {
                    n += r != null ? 1 : 0;
                }
                return n;
            case 4:
            case 5:
                return quiet(what - 4);
            case 6:
                return limit;
            case 7:
                return sizeBits;
            case 8:
                return finding;
            default:
                return BAD;
        }
    }

    long digest() {
        List<Long> all = new ArrayList<>();
        for (int what = 0; what <= 7; what++) {
            all.add((long) count(what));
        }
        for (int r = 0; r < 6; r++) {
            for (int p = 0; p < 5; p++) {
                all.add(part(r, p));
            }
        }
        for (int plane = 0; plane < 2; plane++) {
            for (int p = 0; p < 10; p++) {
                all.add(pull(plane, p));
            }
            for (int k = 0; k < 12; k++) {
                all.add((long) hole(plane, k));
                all.add((long) split(plane, k, 5, 0));
                all.add((long) split(plane, k, 5, 4));
            }
            for (int what = 0; what < 3; what++) {
                all.add((long) fewest(plane, 2, what));
            }
        }
        for (int k = 0; k < 3; k++) {
            for (int b = 0; b < 2; b++) {
                for (int p = 0; p < 5; p++) {
                    all.add(reading(k, b, p));
                }
            }
        }
        long h = 17;
        for (long x : all) {
            h = 31 * h + x;
        }
        return h;
    }
}
