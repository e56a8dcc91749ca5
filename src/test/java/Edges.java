import java.util.ArrayList;
import java.util.List;
import java.util.function.Supplier;
import java.util.function.ToLongFunction;

/** What the tests of edges share: an object with something of everything, and a look at all that a refusal leaves. */
final class Edges {
    static final int LEAST = Integer.MIN_VALUE;
    static final int MOST = Integer.MAX_VALUE;

    private Edges() {
    }

    /**
     * REGISTER 3 is 0, the others are not; SHEETS 0, 1, 2 have 5, 0, 40 items, 3 is LOST; there are two LUMPS, a
     * HOLE in each PLANE; all TRIALS are kept; the latest FINDING is 3.
     */
    static RotorBalancer busy() {
        RotorBalancer x = new RotorBalancer();
        for (int r = 0; r < 6; r++) {
            x.put(r, r == 3 ? 0 : r + 2, r == 3 ? 0 : -1, r == 3 ? 0 : 2 * r - 3, r == 3 ? 0 : 5, r + 1);
        }
        x.lump(7, 1, 3);
        x.lump(5, 10, 8);
        x.drill(0, 2, 3);
        x.drill(1, 9, 1);
        x.lawful(0, 4095 - 2 - 32);
        x.lawful(1, 1 | 8 | 512);
        x.sizes(2 | 32);
        x.limit(3);
        x.bearing(0, 1, 0, 3);
        x.bearing(1, 0, 1, 4);
        int[] items = {5, 0, 40};
        for (int s = 0; s < items.length; s++) {
            x.sheet(s, items[s]);
            for (int i = 0; i < items[s]; i += 2) {
                x.lay(s, i, 10 * s + i + 1, 3);
            }
        }
        x.trial(0, 0, 0);
        x.trial(1, 4, 2);
        x.trial(2, 9, 7);
        x.sheet(3, -1);
        return x;
    }

    /** The call answers that refusal; behind it all is as it was, and count() 8 tells a FINDING, if it is one. */
    static void refused(String sentence, Supplier<RotorBalancer> start, long want, ToLongFunction<RotorBalancer> call) {
        RotorBalancer x = start.get();
        RotorBalancer twin = start.get();
        Check.due(sentence, call.applyAsLong(x), want);
        Check.due(sentence + ": count(8)", x.count(8), findingAfter(want, twin.count(8)));
        Check.dueTrue(sentence + ": changes nothing", picture(x).equals(picture(twin)));
    }

    /** So is a call of an object with something of everything. */
    static void refused(String sentence, long want, ToLongFunction<RotorBalancer> call) {
        refused(sentence, Edges::busy, want, call);
    }

    /** As longs refusals are told from the least long on. */
    static void refusedAsLong(String sentence, int want, ToLongFunction<RotorBalancer> call) {
        refused(sentence, Edges::busy, Check.asLong(want), call);
    }

    private static int findingAfter(long refusal, int before) {
        for (int number = 1; number <= 3; number++) {
            if (refusal == -10 - number || refusal == Check.asLong(-10 - number)) {
                return number;
            }
        }
        return before;
    }

    /** All that calls can tell of an object, which is used up by that. */
    private static List<Long> picture(RotorBalancer x) {
        List<Long> all = new ArrayList<>();
        all.add(x.digest());
        for (int s = 0; s < 4; s++) {
            for (int i = 0; i <= 40; i++) {
                all.add(x.get(s, i));
            }
        }
        for (int i = 0; i < 4; i++) {
            all.add((long) x.effect(i / 2, i % 2, 0));
            for (int part = 0; part < 5; part++) {
                all.add(x.part(0, part));
            }
        }
        for (int i = 0; i < 8; i++) {
            all.add((long) x.bearing(i / 4, i / 2 % 2, i % 2, 0));
        }
        for (int plane = 0; plane < 2; plane++) {
            all.add((long) x.lawful(plane, 0));
        }
        for (int left = x.count(0); left > 0; left--) {
            x.unlump();
            all.add(x.pull(0, 0));
            all.add(x.pull(1, 1));
        }
        return all;
    }

    /** A REGISTER (0 to 4) becomes any longs by 1. SHEET 3 and REGISTER 5 are used for it. */
    static void hold(RotorBalancer x, int r, long... v) {
        x.sheet(3, 4);
        layAll(x, v, 0);
        x.read(r, 3, 0);
        for (int third = 1; third < 3; third++) {
            layAll(x, v, third);
            x.read(5, 3, 0);
            Check.due("hold", x.reckon(0, r, 5, r), 1);
        }
        x.put(5, 0, 0, 0, 0, 1);
        Check.dueNumber("hold", x, r, v[0], v[1], v[2], v[3], 1);
    }

    /** The highest 32 bits of each, the 31 behind them, the last one. */
    private static void layAll(RotorBalancer x, long[] v, int third) {
        for (int i = 0; i < 4; i++) {
            if (third == 0) {
                x.lay(3, i, (int) (v[i] >> 32), 32);
            } else if (third == 1) {
                x.lay(3, i, (int) (v[i] >>> 1 & MOST), 1);
            } else {
                x.lay(3, i, (int) (v[i] & 1), 0);
            }
        }
    }

    /** A REGISTER (0 to 4) becomes a NUMBER by d times l. REGISTER 5 is used for it. */
    static void holdBy(RotorBalancer x, int r, int a, int d, int l) {
        x.put(r, a, 0, 0, 0, d);
        x.put(5, 1, 0, 0, 0, l);
        Check.due("holdBy", x.reckon(2, r, 5, r), 1);
    }

    /** What the document lists for digest(), one by one, by the calls themselves. */
    static long digestByCalls(RotorBalancer x) {
        long h = 17;
        for (int what = 0; what <= 7; what++) {
            h = 31 * h + x.count(what);
        }
        for (int r = 0; r < 6; r++) {
            for (int part = 0; part < 5; part++) {
                h = 31 * h + x.part(r, part);
            }
        }
        for (int plane = 0; plane < 2; plane++) {
            for (int part = 0; part < 10; part++) {
                h = 31 * h + x.pull(plane, part);
            }
            for (int k = 0; k < 12; k++) {
                h = 31 * h + x.hole(plane, k);
                h = 31 * h + x.split(plane, k, 5, 0);
                h = 31 * h + x.split(plane, k, 5, 4);
            }
            for (int what = 0; what < 3; what++) {
                h = 31 * h + x.fewest(plane, 2, what);
            }
        }
        for (int i = 0; i < 30; i++) {
            h = 31 * h + x.reading(i / 10, i / 5 % 2, i % 5);
        }
        return h;
    }
}
