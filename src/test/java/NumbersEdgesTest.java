/** Edges of promises 1 to 6; above each test stand the promise and the sentence that it holds to. */
public final class NumbersEdgesTest {
    private static final int SUM = 0, DIFFERENCE = 1, PRODUCT = 2, QUOTIENT = 3;
    private static final long MOST = Long.MAX_VALUE;
    private static final long LEAST = Long.MIN_VALUE;
    private static final long HALF = 1L << 62;
    /** Three times this is the last within longs. */
    private static final long THIRD = MOST / 3;
    /** Its square is the last within longs. */
    private static final long SIDE = 3037000499L;

    public static void main(String[] args) {
        newRegisters();
        newRotor();
        newTrials();
        newLawful();
        newSheets();
        newSettings();
        putBad();
        putEnds();
        putLowestTerms();
        readBad();
        readNull();
        readIndex();
        readEnds();
        readByOne();
        reckonBad();
        reckonZero();
        reckonZeroBeforeOver();
        reckonOntoItself();
        sumOver();
        differenceOver();
        sumWaysOver();
        dividersOver();
        overBeforeLowestTerms();
        overThenNot();
        productTermsOver();
        productSumsOver();
        productOrder();
        productThrice();
        quotientEnds();
        quotientOver();
        quotientMirrorOver();
        quotientDividerOver();
        quotientReciprocalInLowestTerms();
        partBad();
        partEnds();
        compareBad();
        compareDifferenceOver();
        compareNot();
        compareSquaresOver();
        compareLikeSigns();
        compareUnlikeSigns();
        Check.end();
    }

    // Promise 1: "REGISTERS are 0" (Terms: "0, 0, 0, 0 by 1").
    private static void newRegisters() {
        for (int r = 0; r < 6; r++) {
            Check.dueNumber("new", new RotorBalancer(), r, 0, 0, 0, 0, 1);
        }
    }

    // Promise 1: "no LUMPS, no HOLES".
    private static void newRotor() {
        Check.due("no LUMPS", new RotorBalancer().unlump(), Check.NOT);
        for (int i = 0; i < 24; i++) {
            Check.due("no HOLES", new RotorBalancer().fill(i / 12, i % 12), Check.NOT);
            Check.due("no HOLES", new RotorBalancer().hole(i / 12, i % 12), 0);
        }
        for (int what = 0; what < 3; what++) {
            Check.due("none", new RotorBalancer().count(what), 0);
        }
    }

    // Promise 1: "no TRIALS".
    private static void newTrials() {
        RotorBalancer x = new RotorBalancer();
        Check.due("no TRIALS", x.count(3), 0);
        for (int i = 0; i < 6; i++) {
            Check.due("no TRIALS", x.reading(i / 2, i % 2, 0), Check.asLong(Check.NOT));
        }
    }

    // Promise 1: "all ANGLES LAWFUL".
    private static void newLawful() {
        for (int i = 0; i < 24; i++) {
            Check.due("all LAWFUL", new RotorBalancer().drill(i / 12, i % 12, 1), 1);
        }
        for (int plane = 0; plane < 2; plane++) {
            Check.due("all LAWFUL", new RotorBalancer().lawful(plane, 0), 4095);
        }
    }

    // Promise 1: "all SHEETS are LOST".
    private static void newSheets() {
        for (int s = 0; s < 4; s++) {
            Check.due("LOST", new RotorBalancer().lose(s), Check.NULL);
        }
    }

    // Promise 1 with Terms: "LIMIT .. 1 at first", "(1, 2, 4 at first)", "at first 2, if p is b, else 1; LAG 0".
    private static void newSettings() {
        RotorBalancer x = new RotorBalancer();
        Check.due("LIMIT", x.limit(0), 1);
        Check.due("SIZES", x.sizes(2), 2 + 4 + 16);
        for (int i = 0; i < 4; i++) {
            Check.due("GAIN", x.bearing(i / 2, i % 2, 0, 5), i / 2 == i % 2 ? 2 : 1);
            Check.due("LAG", x.bearing(i / 2, i % 2, 1, 5), 0);
        }
    }

    // Promise 2: "BAD: the REGISTER, d below 1."
    private static void putBad() {
        for (int r : new int[] {-1, 6, Edges.LEAST, Edges.MOST}) {
            Edges.refused("put: REGISTER " + r, Check.BAD, x -> x.put(r, 1, 2, 3, 4, 5));
        }
        for (int d : new int[] {0, -1, Edges.LEAST}) {
            Edges.refused("put: d " + d, Check.BAD, x -> x.put(0, 1, 2, 3, 4, d));
        }
        for (int r = 0; r < 6; r += 5) {
            RotorBalancer x = Edges.busy();
            Check.due("put: d 1", x.put(r, 7, 0, 0, 0, 1), 1);
            Check.dueNumber("put: d 1", x, r, 7, 0, 0, 0, 1);
        }
    }

    // Promise 2: "A REGISTER becomes (a, b, c, e) by d", at the ends of ints.
    private static void putEnds() {
        RotorBalancer x = new RotorBalancer();
        int most = Edges.MOST;
        int least = Edges.LEAST;
        Check.due("ends", x.put(0, least, most, least, most, most), 1);
        Check.dueNumber("ends", x, 0, least, most, least, most, most);
        Check.due("most by most", x.put(0, most, -most, most, -most, most), 1);
        Check.dueNumber("most by most", x, 0, 1, -1, 1, -1, 1);
        Check.due("least", x.put(0, least, least, least, least, 1), 1);
        Check.dueNumber("least", x, 0, least, least, least, least, 1);
    }

    // Promise 2: "in lowest terms" (Terms: "no whole number but 1 and -1 divides all five").
    private static void putLowestTerms() {
        RotorBalancer x = new RotorBalancer();
        x.put(0, 0, 0, 0, 0, Edges.MOST);
        Check.dueNumber("0 by most", x, 0, 0, 0, 0, 0, 1);
        for (int i = 0; i < 4; i++) {
            long[] want = {0, 0, 0, 0, 3};
            want[i] = -2;
            x.put(1, i == 0 ? -14 : 0, i == 1 ? -14 : 0, i == 2 ? -14 : 0, i == 3 ? -14 : 0, 21);
            Check.dueNumber("the only one", x, 1, want);
            x.put(1, i == 0 ? 3 : 6, i == 1 ? 3 : 6, i == 2 ? 3 : 6, i == 3 ? 3 : 6, 6);
            long[] less = {2, 2, 2, 2, 2};
            less[i] = 1;
            Check.dueNumber("3 divides all", x, 1, less);
        }
        x.put(2, 6, 10, 14, 22, 15);
        Check.dueNumber("d has no 2", x, 2, 6, 10, 14, 22, 15);
    }

    // Promise 3: "BAD: the REGISTER, the SHEET" .. and before "NULL; INDEX".
    private static void readBad() {
        for (int bad : new int[] {-1, 6, Edges.LEAST, Edges.MOST}) {
            Edges.refused("read: REGISTER " + bad, Check.BAD, x -> x.read(bad, 0, 0));
            Edges.refused("read: REGISTER before NULL", Check.BAD, x -> x.read(bad, 3, -1));
        }
        for (int bad : new int[] {-1, 4, Edges.LEAST, Edges.MOST}) {
            Edges.refused("read: SHEET " + bad, Check.BAD, x -> x.read(0, bad, 0));
            Edges.refused("read: SHEET before INDEX", Check.BAD, x -> x.read(0, bad, 90));
        }
    }

    // Promise 3: "NULL" .. before "INDEX".
    private static void readNull() {
        Edges.refused("read: LOST", Check.NULL, x -> x.read(0, 3, 0));
        Edges.refused("read: LOST before INDEX", Check.NULL, x -> x.read(5, 3, -1));
    }

    // Promise 3: "INDEX": not four items of the SHEET from i on.
    private static void readIndex() {
        for (int i : new int[] {-1, -4, 2, 5, Edges.LEAST, Edges.MOST, Edges.MOST - 3}) {
            Edges.refused("read: five items from " + i, Check.INDEX, x -> x.read(0, 0, i));
        }
        Edges.refused("read: no items", Check.INDEX, x -> x.read(0, 1, 0));
        Edges.refused("read: 40 items from 37", Check.INDEX, x -> x.read(0, 2, 37));
    }

    // Promise 3: "the four items of a SHEET from i on": the first and the last that there are.
    private static void readEnds() {
        RotorBalancer x = Edges.busy();
        Check.due("first", x.read(0, 0, 0), 1);
        Check.dueNumber("first", x, 0, 8, 0, 24, 0, 1);
        Check.due("last of five", x.read(5, 0, 1), 1);
        Check.dueNumber("last of five", x, 5, 0, 24, 0, 40, 1);
        Check.due("last of 40", x.read(5, 2, 36), 1);
        Check.dueNumber("last of 40", x, 5, 8 * 57, 0, 8 * 59, 0, 1);
        x.sheet(1, 4);
        Check.due("all four", x.read(5, 1, 0), 1);
        Check.dueNumber("all four", x, 5, 0, 0, 0, 0, 1);
    }

    // Promise 3: "by 1", for longs at their ends too.
    private static void readByOne() {
        RotorBalancer x = new RotorBalancer();
        x.sheet(0, 4);
        for (int i = 0; i < 4; i++) {
            x.lay(0, i, -2, 62);
        }
        Check.due("read", x.read(2, 0, 0), 1);
        Check.dueNumber("read", x, 2, LEAST, LEAST, LEAST, LEAST, 1);
        Edges.hold(x, 2, MOST, LEAST, -MOST, 0);
        Check.dueNumber("read", x, 2, MOST, LEAST, -MOST, 0, 1);
    }

    // Promise 4: "BAD": what 0 to 3, REGISTERS 0 to 5; before "ZERO; OVER".
    private static void reckonBad() {
        for (int bad : new int[] {-1, 4, Edges.LEAST, Edges.MOST}) {
            Edges.refused("reckon: what " + bad, Check.BAD, x -> x.reckon(bad, 0, 1, 2));
            Edges.refused("reckon: what, no ZERO", Check.BAD, x -> x.reckon(bad, 0, 3, 2));
        }
        for (int bad : new int[] {-1, 6, Edges.LEAST, Edges.MOST}) {
            Edges.refused("reckon: r " + bad, Check.BAD, x -> x.reckon(SUM, bad, 1, 2));
            Edges.refused("reckon: s " + bad, Check.BAD, x -> x.reckon(SUM, 0, bad, 2));
            Edges.refused("reckon: t " + bad, Check.BAD, x -> x.reckon(SUM, 0, 1, bad));
            Edges.refused("reckon: BAD before ZERO", Check.BAD, x -> x.reckon(QUOTIENT, bad, 3, 0));
            Edges.refused("reckon: BAD before ZERO", Check.BAD, x -> x.reckon(QUOTIENT, 0, 3, bad));
            Edges.refused("reckon: BAD before OVER", () -> holding(MOST, MOST), Check.BAD,
                    x -> x.reckon(SUM, 0, 1, bad));
        }
    }

    // Promise 4: "ZERO" (Terms: "ZERO, if the second is 0").
    private static void reckonZero() {
        Edges.refused("reckon: by 0", Check.ZERO, x -> x.reckon(QUOTIENT, 0, 3, 1));
        Edges.refused("reckon: by 0, onto that", Check.ZERO, x -> x.reckon(QUOTIENT, 0, 3, 3));
        Edges.refused("reckon: 0 by 0", Check.ZERO, x -> x.reckon(QUOTIENT, 3, 3, 1));
        for (int what = SUM; what < QUOTIENT; what++) {
            Check.due("reckon: with 0", Edges.busy().reckon(what, 0, 3, 1), 1);
        }
        RotorBalancer x = Edges.busy();
        Check.due("reckon: 0 by another", x.reckon(QUOTIENT, 3, 0, 1), 1);
        Check.dueNumber("reckon: 0 by another", x, 1, 0, 0, 0, 0, 1);
        for (int i = 0; i < 4; i++) {
            x.put(2, i == 0 ? 1 : 0, i == 1 ? 1 : 0, i == 2 ? 1 : 0, i == 3 ? 1 : 0, 1);
            Check.due("reckon: one part is not 0", x.reckon(QUOTIENT, 2, 2, 4), 1);
            Check.dueNumber("reckon: by itself", x, 4, 1, 0, 0, 0, 1);
        }
    }

    // Promise 4: "ZERO; OVER": in this order.
    private static void reckonZeroBeforeOver() {
        RotorBalancer x = holding(LEAST, LEAST);
        Check.due("least by 0", x.reckon(QUOTIENT, 0, 4, 2), Check.ZERO);
        Check.due("least by least", x.reckon(QUOTIENT, 0, 1, 2), Check.OVER);
    }

    // Promise 4: "REGISTER t becomes": t may be r, s or both.
    private static void reckonOntoItself() {
        for (int what = SUM; what <= QUOTIENT; what++) {
            for (int i = 0; i < 3; i++) {
                int s = i == 2 ? 0 : 1;
                int t = i == 1 ? 1 : 0;
                RotorBalancer apart = Edges.busy();
                apart.reckon(what, 0, s, 4);
                RotorBalancer x = Edges.busy();
                Check.due("onto itself", x.reckon(what, 0, s, t), 1);
                for (int part = 0; part < 5; part++) {
                    Check.due("onto itself: " + what, x.part(t, part), apart.part(4, part));
                }
            }
        }
    }

    /** REGISTERS 0, 1 hold these. */
    private static RotorBalancer holding(long first, long second) {
        return holding(0, first, 0, second);
    }

    /** REGISTER 0 holds one at part i, REGISTER 1 at part j; others are 0. */
    private static RotorBalancer holding(int i, long first, int j, long second) {
        long[] one = new long[4];
        long[] other = new long[4];
        one[i] = first;
        other[j] = second;
        return holding(one, other);
    }

    private static RotorBalancer holding(long[] first, long[] second) {
        RotorBalancer x = new RotorBalancer();
        Edges.hold(x, 0, first);
        Edges.hold(x, 1, second);
        return x;
    }

    private static void over(String what, int act, long[] first, long[] second) {
        Edges.refused(what, () -> holding(first, second), Check.OVER, x -> x.reckon(act, 0, 1, 2));
    }

    private static void over(String what, int act, int i, long first, int j, long second) {
        Edges.refused(what, () -> holding(i, first, j, second), Check.OVER, x -> x.reckon(act, 0, 1, 2));
    }

    private static void stands(String what, int act, long[] first, long[] second, long... want) {
        RotorBalancer x = holding(first, second);
        Check.due(what, x.reckon(act, 0, 1, 2), 1);
        Check.dueNumber(what, x, 2, want[0], want[1], want[2], want[3], 1);
    }

    private static void stands(String what, int act, int i, long first, int j, long second, int part, long want) {
        RotorBalancer x = holding(i, first, j, second);
        Check.due(what, x.reckon(act, 0, 1, 2), 1);
        for (int k = 0; k < 4; k++) {
            Check.due(what + ": part " + k, x.part(2, k), k == part ? want : 0);
        }
        Check.due(what + ": d", x.part(2, 4), 1);
    }

    // Promise 4: "OVER" of a SUM: "one of the five .. beyond longs", each of a, b, c, e.
    private static void sumOver() {
        for (int i = 0; i < 4; i++) {
            stands("to most", SUM, i, MOST - 1, i, 1, i, MOST);
            over("beyond most", SUM, i, MOST, i, 1);
            stands("to least", SUM, i, -1, i, LEAST + 1, i, LEAST);
            over("beyond least", SUM, i, -1, i, LEAST);
            stands("most and least", SUM, i, MOST, i, LEAST, i, -1);
        }
    }

    // Promise 4: "OVER" of a DIFFERENCE: "likewise, with less".
    private static void differenceOver() {
        for (int i = 0; i < 4; i++) {
            stands("to most", DIFFERENCE, i, -1, i, LEAST, i, MOST);
            over("beyond most", DIFFERENCE, i, 0, i, LEAST);
            stands("to least", DIFFERENCE, i, LEAST + 1, i, 1, i, LEAST);
            over("beyond least", DIFFERENCE, i, LEAST, i, 1);
            stands("least less itself", DIFFERENCE, i, LEAST, i, LEAST, i, 0);
        }
    }

    // Promise 4: "or on the way to it one of the following, beyond longs is OVER": a l and f d of a SUM, DIFFERENCE.
    private static void sumWaysOver() {
        for (int act = SUM; act <= DIFFERENCE; act++) {
            int what = act;
            for (int i = 0; i < 4; i++) {
                long[] large = new long[4];
                large[i] = HALF;
                Edges.refused("a l", () -> withHalf(large), Check.OVER, x -> x.reckon(what, 0, 1, 2));
                Edges.refused("f d", () -> withHalf(large), Check.OVER, x -> x.reckon(what, 1, 0, 2));
                large[i] = -HALF;
                RotorBalancer x = withHalf(large);
                Check.due("a l is the least", x.reckon(SUM, 0, 1, 2), 1);
                Check.due("a l is the least", x.part(2, i), i == 0 ? LEAST + 1 : -HALF * (i == 0 ? 1 : 2));
                Check.due("f d is the least", x.reckon(SUM, 1, 0, 2), 1);
                Check.due("d", x.part(2, 4), 2);
            }
        }
    }

    /** REGISTER 1 is 1 by 2. */
    private static RotorBalancer withHalf(long[] first) {
        RotorBalancer x = holding(first, new long[4]);
        x.put(1, 1, 0, 0, 0, 2);
        return x;
    }

    // Promise 4: "by d l", of SUM, DIFFERENCE, PRODUCT: as far as longs go.
    private static void dividersOver() {
        for (int what = SUM; what <= PRODUCT; what++) {
            RotorBalancer x = new RotorBalancer();
            Edges.holdBy(x, 0, 1, 649657, 92737);
            x.put(1, 1, 0, 0, 0, 153092023);
            Check.due("d l is most", x.reckon(what, 0, 1, 2), 1);
            Check.due("d l is most", x.part(2, 4), MOST);
            int act = what;
            Edges.refused("d l beyond", NumbersEdgesTest::beyondMost, Check.OVER, y -> y.reckon(act, 0, 1, 2));
            Edges.refused("l d beyond", NumbersEdgesTest::beyondMost, Check.OVER, y -> y.reckon(act, 1, 0, 2));
        }
    }

    /** 1 by 2 to the 31 and 1 by 2 to the 32. */
    private static RotorBalancer beyondMost() {
        RotorBalancer x = new RotorBalancer();
        Edges.holdBy(x, 0, 1, 1 << 30, 2);
        Edges.holdBy(x, 1, 1, 1 << 30, 4);
        return x;
    }

    // Promise 4 with Terms: "on the way to it": what would fit in lowest terms may be OVER before it is put so.
    private static void overBeforeLowestTerms() {
        RotorBalancer x = beyondMost();
        Check.due("d d is 2 to the 62", x.reckon(SUM, 0, 0, 2), 1);
        Check.dueNumber("d d is 2 to the 62", x, 2, 1, 0, 0, 0, 1 << 30);
        Edges.refused("0, but d d is 2 to the 64", NumbersEdgesTest::beyondMost, Check.OVER,
                y -> y.reckon(DIFFERENCE, 1, 1, 2));
        Edges.refused("9 times 2 to the 60, by 6", () -> thirds(9), Check.OVER, y -> y.reckon(PRODUCT, 0, 1, 2));
        x = thirds(3);
        Check.due("3 times 2 to the 60, by 6", x.reckon(PRODUCT, 0, 1, 2), 1);
        Check.dueNumber("3 times 2 to the 60, by 6", x, 2, 1L << 59, 0, 0, 0, 1);
    }

    /** 2 to the 60 by 3, and so many by 2. */
    private static RotorBalancer thirds(int halves) {
        RotorBalancer x = holding(1L << 60, 0);
        x.put(1, 1, 0, 0, 0, 3);
        x.reckon(PRODUCT, 0, 1, 0);
        x.put(1, halves, 0, 0, 0, 2);
        return x;
    }

    // Promise 4 with "They change nothing": what is OVER is no matter to the next call.
    private static void overThenNot() {
        for (int first = 0; first < 6; first++) {
            for (int next = SUM; next <= QUOTIENT; next++) {
                RotorBalancer x = afterOver(first);
                x.put(3, 6, 0, 0, 0, 1);
                x.put(4, 2, 0, 0, 0, 1);
                Check.due("behind what is OVER", x.reckon(next, 3, 4, 2), 1);
                int[] want = {8, 4, 12, 3};
                Check.dueNumber("behind what is OVER", x, 2, want[next], 0, 0, 0, 1);
            }
            Check.due("behind what is OVER", afterOver(first).compare(3, 4), 0);
            RotorBalancer x = afterOver(first);
            x.put(3, 7, -4, 0, 0, 1);
            Check.due("behind what is OVER", x.compare(3, 4), 1);
        }
    }

    /** Four acts of reckon are OVER, or a DIFFERENCE, a square in compare; REGISTERS 3, 4 are 0. */
    private static RotorBalancer afterOver(int act) {
        long other = act == DIFFERENCE || act == 4 ? -MOST : MOST;
        RotorBalancer x = holding(new long[] {MOST, -1, 0, 0}, new long[] {other, 0, 0, 0});
        int answer = act < 4 ? x.reckon(act, 0, 1, 2) : act == 4 ? x.compare(0, 1) : x.compare(0, 2);
        Check.due("OVER", answer, Check.OVER);
        return x;
    }

    /** ROOT and TURNED: which part the PRODUCT of parts i and j goes to, and how often. */
    private static int partOf(int i, int j) {
        return i ^ j;
    }

    private static int timesOf(int i, int j) {
        return ((i & j & 1) != 0 ? 3 : 1) * ((i & j & 2) != 0 ? -1 : 1);
    }

    // Promise 4: "OVER" of a PRODUCT: each of its sixteen products by itself.
    private static void productTermsOver() {
        for (int i = 0; i < 4; i++) {
            for (int j = 0; j < 4; j++) {
                int times = timesOf(i, j);
                int part = partOf(i, j);
                String what = "product of parts " + i + ", " + j;
                boolean isThrice = times == 3 || times == -3;
                long last = isThrice || i % 2 == 1 ? THIRD : MOST;
                stands(what, PRODUCT, i, last, j, 1, part, last * times);
                stands(what, PRODUCT, i, -last, j, 1, part, -last * times);
                if (isThrice) {
                    over(what, PRODUCT, i, THIRD + 1, j, 1);
                    over(what, PRODUCT, i, -THIRD - 1, j, 1);
                    stands(what, PRODUCT, i, 1, j, THIRD, part, THIRD * times);
                    over(what, PRODUCT, i, 1, j, THIRD + 1);
                } else {
                    over(what + " beyond longs, be it less or not", PRODUCT, i, 1L << 61, j, 4);
                    over(what + " beyond longs, be it less or not", PRODUCT, i, 2, j, 1L << 62);
                    leastOf(what, i, j, part, times);
                }
            }
        }
    }

    /** The least long can be told, but not taken from 0. */
    private static void leastOf(String what, int i, int j, int part, int times) {
        if (times > 0) {
            stands(what, PRODUCT, i, -1L << 61, j, 4, part, LEAST);
            stands(what, PRODUCT, i, -2, j, 1L << 62, part, LEAST);
        } else {
            over(what + ": 0 less the least", PRODUCT, i, -1L << 61, j, 4);
            over(what + ": 0 less the least", PRODUCT, i, -2, j, 1L << 62);
        }
    }

    // Promise 4 with Terms: "x and y less z and w is x and y together, less z and w together": each of these sums
    // may be the only one beyond longs, and what it would lead to within them.
    private static void productSumsOver() {
        int[][] sums = {
            {2, 2, 2, 0, 4, 4, 2, 0}, // a f and 3 b g
            {0, 0, 2, 2, 0, 0, 4, 4}, // c h and 3 e k
            {0, 2, 0, 2, 0, 2, 0, -4}, // these, less these (a)
            {5, 1, 3, 0, 2, 6, 2, 2}, // a g and b f
            {-4, -1, -8, 1, -1, 1, -1, 4}, // c k and e h
            {0, 2, 0, 4, 4, 0, -6, 0}, // these, less these (b)
            {2, 2, 2, 0, -2, 0, 4, 4}, // a h and 3 b k
            {0, 2, 2, 2, 4, -2, -2, 4}, // these, and c f
            {0, 2, 0, 2, 0, 2, 0, 4}, // these, and 3 e g
            {6, -1, 2, 0, -1, -1, -2, 5}, // a k and b h
            {0, 2, 6, 2, -2, 4, 4, 0}, // these, and c g
            {0, 2, 0, 4, 6, 0, 4, 0}, // these, and e f
        };
        for (int i = 0; i < sums.length; i++) {
            over("sum " + i + " of a PRODUCT", PRODUCT, four(sums[i], 0, 29), four(sums[i], 4, 29));
            RotorBalancer x = holding(four(sums[i], 0, 28), four(sums[i], 4, 29));
            Check.due("the half of it", x.reckon(PRODUCT, 0, 1, 2), 1);
        }
    }

    /** Four of eight, times 2 so often. */
    private static long[] four(int[] v, int from, int often) {
        long[] part = new long[4];
        for (int i = 0; i < 4; i++) {
            part[i] = (long) v[from + i] << often;
        }
        return part;
    }

    // Promise 4 with Terms: "products and sums are taken one by one in this order from the left".
    private static void productOrder() {
        long a = 1L << 31;
        long b = 1L << 30;
        stands("a h and 3 b k are together before c f comes", PRODUCT,
                new long[] {a, b, a, 0}, new long[] {a, 0, a, -b}, 0, 1L << 62, 5L << 60, 0);
    }

    // Promise 4 with Terms: "3 b g": 3 b is taken first, and may be OVER, though g is 0.
    private static void productThrice() {
        for (int i = 1; i < 4; i += 2) {
            over("3 of part " + i + " of the first", PRODUCT, i, THIRD + 1, 0, 1);
            stands("part " + i + " of the second", PRODUCT, 0, 1, i, THIRD + 1, i, THIRD + 1);
        }
    }

    // Promise 4: QUOTIENT, as far as T goes.
    private static void quotientEnds() {
        RotorBalancer x = holding(55108, 55108);
        Check.due("T within", x.reckon(QUOTIENT, 0, 1, 2), 1);
        Check.dueNumber("T within", x, 2, 1, 0, 0, 0, 1);
        x.put(0, -1, 0, 0, 0, 1);
        Check.due("T within", x.reckon(QUOTIENT, 0, 1, 2), 1);
        Check.dueNumber("T within", x, 2, -1, 0, 0, 0, 55108);
        x.put(1, -1, 0, 0, 0, Edges.MOST);
        Check.due("by the least part", x.reckon(QUOTIENT, 0, 1, 2), 1);
        Check.dueNumber("by the least part", x, 2, Edges.MOST, 0, 0, 0, 1);
        Edges.hold(x, 0, MOST, 0, 0, 0);
        x.put(1, -1, 0, 0, 0, 1);
        Check.due("most by -1", x.reckon(QUOTIENT, 0, 1, 2), 1);
        Check.dueNumber("most by -1", x, 2, -MOST, 0, 0, 0, 1);
    }

    // Promise 4: "OVER" of a QUOTIENT: N, n n, 3 m m, d and its PRODUCT with the first.
    private static void quotientOver() {
        over("n n", QUOTIENT, 0, 1, 0, 55109);
        over("n n, though the second is the first", QUOTIENT, 0, 55109, 0, 55109);
        over("a a", QUOTIENT, 0, 1, 0, SIDE + 1);
        over("least by -1", QUOTIENT, 0, LEAST, 0, -1);
        over("3 of the first", QUOTIENT, 1, THIRD + 1, 0, 1);
        for (int i = 0; i < 4; i++) {
            over("part " + i + " beyond", QUOTIENT, 0, 1, i, 55109);
            over("part " + i + " far beyond", QUOTIENT, 0, 1, i, THIRD);
        }
    }

    // Promise 4 with Terms: "MIRROR: (a, b, -c, -e) by d", and "(n, -m, 0, 0) by 1": their signs changed.
    private static void quotientMirrorOver() {
        for (int i = 0; i < 4; i++) {
            over("the least in part " + i, QUOTIENT, 0, 1, i, LEAST);
            over("0 by the least in part " + i, QUOTIENT, 0, 0, i, LEAST);
        }
    }

    // Promise 4 with Terms: "(d, 0, 0, 0) by 1": the PRODUCT with it.
    private static void quotientDividerOver() {
        RotorBalancer x = new RotorBalancer();
        x.put(0, 1, 0, 0, 0, 1);
        x.put(1, 1290, 0, 0, 0, Edges.MOST);
        Check.due("1290 to the third by most", x.reckon(QUOTIENT, 0, 1, 2), 1);
        Check.dueNumber("1290 to the third by most", x, 2, Edges.MOST, 0, 0, 0, 1290);
        Edges.refused("1626 to the third by most", NumbersEdgesTest::withDivider, Check.OVER,
                y -> y.reckon(QUOTIENT, 0, 1, 2));
    }

    private static RotorBalancer withDivider() {
        RotorBalancer x = new RotorBalancer();
        x.put(0, 1, 0, 0, 0, 1);
        x.put(1, 1626, 0, 0, 0, Edges.MOST);
        return x;
    }

    // Promise 4 with Terms: a NUMBER is in lowest terms; so is a RECIPROCAL before its PRODUCT with the first.
    private static void quotientReciprocalInLowestTerms() {
        RotorBalancer x = new RotorBalancer();
        Edges.hold(x, 0, 1L << 40, 0, 0, 0);
        x.put(1, 1 << 15, 0, 0, 0, 1);
        Check.due("2 to the 40 by 2 to the 15", x.reckon(QUOTIENT, 0, 1, 2), 1);
        Check.dueNumber("2 to the 40 by 2 to the 15", x, 2, 1L << 25, 0, 0, 0, 1);
    }

    // Promise 5: "(part = 0 to 4)", "BAD".
    private static void partBad() {
        for (int bad : new int[] {-1, 5, Edges.LEAST, Edges.MOST}) {
            Edges.refusedAsLong("part " + bad, Check.BAD, x -> x.part(0, bad));
        }
        for (int bad : new int[] {-1, 6, Edges.LEAST, Edges.MOST}) {
            Edges.refusedAsLong("part of REGISTER " + bad, Check.BAD, x -> x.part(bad, 4));
        }
        Check.due("the least long and 2 more", Edges.busy().part(6, 5), LEAST + 2);
    }

    // Promise 5: "a, b, c, e, d of a REGISTER": of the first and the last, the least long as such.
    private static void partEnds() {
        RotorBalancer x = new RotorBalancer();
        x.put(0, 1, 2, 3, 4, 5);
        x.put(5, -6, -7, -8, -9, 11);
        Check.dueNumber("the first", x, 0, 1, 2, 3, 4, 5);
        Check.dueNumber("the last", x, 5, -6, -7, -8, -9, 11);
        Edges.hold(x, 0, LEAST, LEAST + 2, LEAST + 3, MOST);
        Check.dueNumber("as refusals, but none", x, 0, LEAST, LEAST + 2, LEAST + 3, MOST, 1);
    }

    // Promise 6: "BAD: the least int", before all else.
    private static void compareBad() {
        for (int bad : new int[] {-1, 6, Edges.LEAST, Edges.MOST}) {
            Edges.refused("compare: r " + bad, Edges.LEAST, x -> x.compare(bad, 3));
            Edges.refused("compare: s " + bad, Edges.LEAST, x -> x.compare(3, bad));
        }
        Check.due("the last REGISTER", new RotorBalancer().compare(5, 0), 0);
    }

    // Promise 6: "OVER, if the DIFFERENCE is", before "NOT".
    private static void compareDifferenceOver() {
        for (int i = 0; i < 4; i++) {
            int part = i;
            Edges.refused("DIFFERENCE", () -> holding(part, MOST, part, -1), Check.OVER, x -> x.compare(0, 1));
            Edges.refused("DIFFERENCE", () -> holding(part, 0, part, LEAST), Check.OVER, x -> x.compare(0, 1));
        }
        Edges.refused("DIFFERENCE before NOT", () -> holding(new long[] {MOST, 0, 1, 0}, new long[] {-1, 0, 0, 0}),
                Check.OVER, x -> x.compare(0, 1));
        Edges.refused("d l", NumbersEdgesTest::beyondMost, Check.OVER, x -> x.compare(0, 1));
        Check.due("itself, though least", holding(LEAST, 0).compare(0, 0), 0);
    }

    // Promise 6: "NOT: the DIFFERENCE has a TURNED part", before "OVER, if a a or 3 b b is".
    private static void compareNot() {
        for (int i = 2; i < 4; i++) {
            int part = i;
            Edges.refused("TURNED", () -> holding(0, 5, part, 1), Check.NOT, x -> x.compare(0, 1));
            Edges.refused("TURNED", () -> holding(part, 1, 0, 5), Check.NOT, x -> x.compare(0, 1));
            Check.due("gone in the DIFFERENCE", holding(part, 7, part, 7).compare(0, 1), 0);
        }
        Edges.refused("TURNED before a a", () -> holding(new long[] {MOST, -1, 1, 0}, new long[4]),
                Check.NOT, x -> x.compare(0, 1));
    }

    // Promise 6: "OVER, if a a or 3 b b is".
    private static void compareSquaresOver() {
        Check.due("a a within", holding(new long[] {SIDE, -1, 0, 0}, new long[4]).compare(0, 1), 1);
        Check.due("a a within", holding(new long[] {-SIDE, 1, 0, 0}, new long[4]).compare(0, 1), -1);
        Check.due("3 b b within", holding(new long[] {-1, 1753413056L, 0, 0}, new long[4]).compare(0, 1), 1);
        Check.due("3 b b within", holding(new long[] {1, -1753413056L, 0, 0}, new long[4]).compare(0, 1), -1);
        long[][] beyond = {
            {SIDE + 1, -1}, {-SIDE - 1, 1}, {1, -1753413057L}, {-1, 1753413057L}, {-1, THIRD + 1}, {1, LEAST},
            {LEAST, 1}, {1L << 32, -1}, {-1, 1L << 32}
        };
        for (long[] v : beyond) {
            Edges.refused("a a, 3 b b", () -> holding(new long[] {v[0], v[1], 0, 0}, new long[4]),
                    Check.OVER, x -> x.compare(0, 1));
        }
    }

    // Promise 6 with Terms: "of like signs (or one is 0) that": no squares are on the way.
    private static void compareLikeSigns() {
        long[] ends = {LEAST, LEAST + 1, -1, 0, 1, MOST};
        for (long a : ends) {
            for (long b : ends) {
                if (Long.signum(a) * Long.signum(b) >= 0) {
                    int want = Long.signum(a) == 0 ? Long.signum(b) : Long.signum(a);
                    Check.due("like signs", holding(new long[] {a, b, 0, 0}, new long[4]).compare(0, 1), want);
                }
            }
        }
    }

    // Promise 6 with Terms: "else that of a, if a a is more than 3 b b, else that of b".
    private static void compareUnlikeSigns() {
        int[][] near = {
            {2, 1, 1}, {1, 1, -1}, {7, 4, 1}, {5, 3, -1}, {97, 56, 1}, {71, 41, -1}, {1351, 780, 1}, {989, 571, -1}
        };
        for (int[] v : near) {
            RotorBalancer x = holding(new long[] {v[0], -v[1], 0, 0}, new long[] {-v[0], v[1], 0, 0});
            Check.due(v[0] + " less roots", x.compare(0, 4), v[2]);
            Check.due("roots less " + v[0], x.compare(1, 4), -v[2]);
            Check.due("the greater first", x.compare(0, 1), v[2]);
        }
    }
}
