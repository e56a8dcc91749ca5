import java.util.List;
import java.util.function.Consumer;

/** Edges of promises 17 to 21; above each test stand the promise and the sentence that it holds to. */
public final class BearingsEdgesTest {
    private static final int[] NEITHER = {-1, 2, Edges.LEAST, Edges.MOST};

    public static void main(String[] args) {
        bearingBad();
        gainBad();
        lagBad();
        bearingEnds();
        bearingForgets();
        lumpAndHoleForget();
        drillAllForgets();
        othersKeep();
        trialBad();
        trialNought();
        trialEnds();
        trialHowMany();
        trialAgain();
        trialInPlanes();
        readingBad();
        readingNot();
        readingGainNought();
        readingLags();
        foundBad();
        foundNot();
        foundZero();
        foundNotBeforeZero();
        foundLargest();
        foundNothing();
        effectBad();
        effectNot();
        effectNeedsTwo();
        effectEnds();
        Check.end();
    }

    // Promise 17: "BAD": BEARINGS 0, 1, PLANES 0, 1, what 0, 1.
    private static void bearingBad() {
        for (int bad : NEITHER) {
            Edges.refused("bearing: BEARING " + bad, Check.BAD, x -> x.bearing(bad, 0, 0, 1));
            Edges.refused("bearing: PLANE " + bad, Check.BAD, x -> x.bearing(0, bad, 0, 1));
            Edges.refused("bearing: what " + bad, Check.BAD, x -> x.bearing(0, 0, bad, 1));
        }
    }

    // Promise 17: "BAD" (Terms: "GAIN (0 to 9)").
    private static void gainBad() {
        for (int bad : new int[] {-1, 10, 11, Edges.LEAST, Edges.MOST}) {
            Edges.refused("GAIN " + bad, Check.BAD, x -> x.bearing(1, 1, 0, bad));
        }
    }

    // Promise 17: "BAD" (Terms: "LAG (an ANGLE)").
    private static void lagBad() {
        for (int bad : new int[] {-1, 12, Edges.LEAST, Edges.MOST}) {
            Edges.refused("LAG " + bad, Check.BAD, x -> x.bearing(1, 1, 1, bad));
        }
    }

    // Promise 17: "GAIN (what = 0), LAG (1) of a PLANE in a BEARING: what it was": 0 and 9, 0 and 11.
    private static void bearingEnds() {
        for (int i = 0; i < 4; i++) {
            RotorBalancer x = new RotorBalancer();
            int b = i / 2;
            int p = i % 2;
            Check.due("GAIN at first", x.bearing(b, p, 0, 9), b == p ? 2 : 1);
            Check.due("GAIN most", x.bearing(b, p, 0, 0), 9);
            Check.due("GAIN least", x.bearing(b, p, 0, 1), 0);
            Check.due("LAG at first", x.bearing(b, p, 1, 11), 0);
            Check.due("LAG most", x.bearing(b, p, 1, 0), 11);
            Check.due("LAG least", x.bearing(b, p, 1, 1), 0);
            for (int j = 0; j < 4; j++) {
                Check.due("GAIN of others", x.bearing(j / 2, j % 2, 0, 5), i == j || j / 2 != j % 2 ? 1 : 2);
                Check.due("LAG of others", x.bearing(j / 2, j % 2, 1, 5), i == j ? 1 : 0);
            }
        }
    }

    /** All TRIALS are kept, then none is. */
    private static void forgets(String what, Consumer<RotorBalancer> act) {
        RotorBalancer x = Edges.busy();
        Check.due(what + ": kept", x.count(3), 3);
        act.accept(x);
        Check.due(what + ": forgotten", x.count(3), 0);
        for (int i = 0; i < 6; i++) {
            Check.due(what + ": forgotten", x.reading(i / 2, i % 2, 4), Check.asLong(Check.NOT));
        }
    }

    // Promise 17 with Terms: "all are forgotten when .. a GAIN or LAG is told (as it was, too)".
    private static void bearingForgets() {
        for (int i = 0; i < 4; i++) {
            int b = i / 2;
            int p = i % 2;
            forgets("GAIN", x -> x.bearing(b, p, 0, 7));
            forgets("LAG", x -> x.bearing(b, p, 1, 7));
        }
        forgets("GAIN as it was", x -> Check.due("as it was", x.bearing(0, 1, 0, 3), 3));
        forgets("LAG as it was", x -> Check.due("as it was", x.bearing(0, 0, 1, 0), 0));
    }

    // Promises 7 to 10 with Terms: "all are forgotten when a LUMP, a HOLE is made or gone".
    private static void lumpAndHoleForget() {
        forgets("a LUMP made", x -> x.lump(1, 0, 0));
        forgets("a LUMP gone", RotorBalancer::unlump);
        forgets("a HOLE made in PLANE 0", x -> x.drill(0, 0, 1));
        forgets("a HOLE made in PLANE 1", x -> x.drill(1, 0, 1));
        forgets("a HOLE gone in PLANE 0", x -> x.fill(0, 2));
        forgets("a HOLE gone in PLANE 1", x -> x.fill(1, 9));
    }

    // Promise 23 with Terms: "all are forgotten when .. a HOLE is made": by drillAll, but not, if it makes none.
    private static void drillAllForgets() {
        RotorBalancer x = new RotorBalancer();
        x.lump(5, 0, 0);
        x.trial(0, 0, 0);
        Check.due("one HOLE", x.drillAll(0, 4), 1);
        Check.due("forgotten", x.count(3), 0);
        x.trial(0, 0, 0);
        Check.due("no HOLE", x.drillAll(0, 4), 0);
        Check.due("kept", x.count(3), 1);
        x.limit(0);
        Check.due("no such set", x.drillAll(0, 0), Check.NOT);
        Check.due("kept", x.count(3), 1);
    }

    // Promise 18 with Terms: nothing else makes TRIALS forgotten.
    private static void othersKeep() {
        List<Consumer<RotorBalancer>> acts = List.of(
                x -> x.lawful(0, 0), x -> x.sizes(2), x -> x.limit(0), x -> x.put(0, 1, 1, 1, 1, 1), x -> x.sheet(3, 1),
                x -> x.found(0, 0), x -> x.effect(0, 0, 0), x -> x.fewest(0, 3, 0), x -> x.digest(),
                x -> x.trial(0, 0, 0));
        for (Consumer<RotorBalancer> act : acts) {
            RotorBalancer x = Edges.busy();
            long before = x.reading(2, 1, 0);
            act.accept(x);
            Check.due("kept", x.count(3), 3);
            Check.due("kept", x.reading(2, 1, 0), before);
        }
    }

    // Promise 18: "BAD": a TRIAL "(0 to 2 ..)", "a MOMENT (1 to 99) more at an ANGLE".
    private static void trialBad() {
        for (int bad : new int[] {-1, 3, Edges.LEAST, Edges.MOST}) {
            Edges.refused("TRIAL " + bad, Check.BAD, x -> x.trial(bad, 1, 1));
        }
        for (int k = 1; k < 3; k++) {
            int trial = k;
            for (int bad : new int[] {0, 100, -1, Edges.LEAST, Edges.MOST}) {
                Edges.refused("TRIAL " + k + ": MOMENT " + bad, Check.BAD, x -> x.trial(trial, bad, 1));
            }
            for (int bad : new int[] {-1, 12, Edges.LEAST, Edges.MOST}) {
                Edges.refused("TRIAL " + k + ": ANGLE " + bad, Check.BAD, x -> x.trial(trial, 1, bad));
            }
        }
    }

    // Promise 18: "of 0 MOMENT and ANGLE are not looked at".
    private static void trialNought() {
        for (int v : new int[] {0, -1, 100, 12, 5, Edges.LEAST, Edges.MOST}) {
            RotorBalancer x = new RotorBalancer();
            x.lump(10, 0, 5);
            Check.due("MOMENT " + v, x.trial(0, v, 0), 1);
            Check.dueReading("as it is", x, 0, 0, 15, 0, 0, 0, 1);
            Check.due("ANGLE " + v, x.trial(0, 1, v), 1);
            Check.dueReading("as it is", x, 0, 1, 15, 0, 0, 0, 1);
        }
    }

    // Promise 18 with Terms: "TRIAL 1, 2 with a MOMENT (1 to 99) more at an ANGLE": 1 and 99, 0 and 11.
    private static void trialEnds() {
        for (int k = 1; k < 3; k++) {
            RotorBalancer x = new RotorBalancer();
            Check.due("least", x.trial(k, 1, 0), 1);
            Check.dueReading("least", x, k, k - 1, 2, 0, 0, 0, 1);
            Check.dueReading("least", x, k, 2 - k, 1, 0, 0, 0, 1);
            Check.due("most", x.trial(k, 99, 11), 1);
            Check.dueReading("most", x, k, k - 1, 0, 99, -99, 0, 1);
            Check.dueReading("most", x, k, 2 - k, 0, 99, -99, 0, 2);
        }
    }

    // Promise 18: "how many are kept": 1 to 3, no more by one that is kept.
    private static void trialHowMany() {
        int[][] ways = {{0, 1, 2}, {2, 1, 0}, {1, 0, 2}};
        for (int[] way : ways) {
            RotorBalancer x = new RotorBalancer();
            for (int i = 0; i < 3; i++) {
                Check.due("one more", x.trial(way[i], 1, 1), i + 1);
                Check.due("again", x.trial(way[i], 2, 2), i + 1);
                Check.due("count", x.count(3), i + 1);
            }
        }
    }

    // Promise 18 with Terms: "A TRIAL keeps READINGS of both BEARINGS and what was put there": the latest.
    private static void trialAgain() {
        RotorBalancer x = new RotorBalancer();
        x.trial(0, 0, 0);
        x.trial(1, 99, 7);
        x.trial(2, 5, 3);
        x.trial(1, 4, 3);
        Check.dueReading("the latest", x, 1, 0, 0, 0, 8, 0, 1);
        Check.dueReading("the latest", x, 1, 1, 0, 0, 4, 0, 1);
        Check.dueReading("the other", x, 2, 1, 0, 0, 10, 0, 1);
        x.effect(0, 0, 0);
        Check.dueNumber("by the latest", x, 0, 2, 0, 0, 0, 1);
    }

    // Promise 18 with Terms: "TRIAL 1, 2 .. in PLANE 0, 1".
    private static void trialInPlanes() {
        RotorBalancer x = new RotorBalancer();
        for (int i = 0; i < 4; i++) {
            x.bearing(i / 2, i % 2, 0, i % 2 == 0 ? 3 : 7);
        }
        x.lump(10, 0, 5);
        x.trial(0, 0, 0);
        x.trial(1, 2, 0);
        x.trial(2, 2, 0);
        for (int b = 0; b < 2; b++) {
            Check.dueReading("as it is", x, 0, b, 50, 0, 0, 0, 1);
            Check.dueReading("more in PLANE 0", x, 1, b, 56, 0, 0, 0, 1);
            Check.dueReading("more in PLANE 1", x, 2, b, 64, 0, 0, 0, 1);
        }
    }

    // Promise 19: "BAD", before "NOT".
    private static void readingBad() {
        for (int bad : new int[] {-1, 3, Edges.LEAST, Edges.MOST}) {
            Edges.refusedAsLong("reading: TRIAL " + bad, Check.BAD, x -> x.reading(bad, 0, 0));
        }
        for (int bad : NEITHER) {
            Edges.refusedAsLong("reading: BEARING " + bad, Check.BAD, x -> x.reading(0, bad, 0));
            Check.due("BAD before NOT", new RotorBalancer().reading(0, bad, 0), Check.asLong(Check.BAD));
        }
        for (int bad : new int[] {-1, 5, Edges.LEAST, Edges.MOST}) {
            Edges.refusedAsLong("reading: part " + bad, Check.BAD, x -> x.reading(0, 0, bad));
            Check.due("BAD before NOT", new RotorBalancer().reading(0, 0, bad), Check.asLong(Check.BAD));
        }
    }

    // Promise 19: "NOT: it is not kept."
    private static void readingNot() {
        for (int i = 0; i < 9; i++) {
            RotorBalancer x = new RotorBalancer();
            x.trial(i / 3, 1, 0);
            for (int b = 0; b < 2; b++) {
                Check.due("kept or not", x.reading(i % 3, b, 4), i / 3 == i % 3 ? 1 : Check.asLong(Check.NOT));
            }
        }
        Edges.refused("none", BearingsEdgesTest::untried, Long.MIN_VALUE + 3, x -> x.reading(0, 0, 0));
        Edges.refused("none", BearingsEdgesTest::untried, Long.MIN_VALUE + 3, x -> x.reading(2, 1, 4));
    }

    private static RotorBalancer untried() {
        RotorBalancer x = Edges.busy();
        x.bearing(0, 0, 0, 0);
        return x;
    }

    // Promise 19 with Terms: "PULLS of both PLANES, each times GAIN": 0 leaves nothing of one.
    private static void readingGainNought() {
        RotorBalancer x = new RotorBalancer();
        x.lump(10, 1, 3);
        x.bearing(0, 0, 0, 0);
        x.bearing(1, 0, 0, 0);
        x.bearing(1, 1, 0, 0);
        x.trial(0, 0, 0);
        Check.dueReading("of PLANE 1 alone", x, 0, 0, 0, 3, 3, 0, 2);
        Check.dueReading("nothing", x, 0, 1, 0, 0, 0, 0, 1);
    }

    // Promise 19 with Terms: "times the WAY of LAG": 0 to 11, from where the PULL is on round.
    private static void readingLags() {
        for (int i = 0; i < 48; i++) {
            int b = i / 2 % 2;
            int p = i % 2;
            int lag = i / 4;
            RotorBalancer x = new RotorBalancer();
            x.lump(3, 5, 10 * p);
            x.bearing(b, p, 0, 1);
            x.bearing(b, p, 1, lag);
            x.bearing(b, 1 - p, 1, 7);
            x.bearing(1 - b, p, 1, 8);
            x.trial(0, 0, 0);
            RotorBalancer turned = new RotorBalancer();
            turned.lump(3, (5 + lag) % 12, 0);
            for (int part = 0; part < 5; part++) {
                Check.due("LAG " + lag, x.reading(0, b, part), turned.pull(0, part));
            }
        }
    }

    // Promise 20: "BAD", before "NOT".
    private static void foundBad() {
        for (int bad : NEITHER) {
            Edges.refused("found: PLANE " + bad, Check.BAD, x -> x.found(bad, 0));
            Edges.refused("BAD before NOT", BearingsEdgesTest::untried, Check.BAD, x -> x.found(bad, 0));
        }
        for (int bad : new int[] {-1, 6, Edges.LEAST, Edges.MOST}) {
            Edges.refused("found: REGISTER " + bad, Check.BAD, x -> x.found(0, bad));
            Edges.refused("BAD before NOT", BearingsEdgesTest::untried, Check.BAD, x -> x.found(0, bad));
            Edges.refused("BAD before ZERO", BearingsEdgesTest::alike, Check.BAD, x -> x.found(0, bad));
        }
    }

    // Promise 20: "NOT: not all TRIALS are kept".
    private static void foundNot() {
        for (int missing = 0; missing < 3; missing++) {
            int k = missing;
            for (int plane = 0; plane < 2; plane++) {
                int p = plane;
                Edges.refused("no TRIAL " + k, () -> without(k), Check.NOT, x -> x.found(p, 3));
            }
        }
        Edges.refused("none", BearingsEdgesTest::untried, Check.NOT, x -> x.found(0, 0));
    }

    private static RotorBalancer without(int missing) {
        RotorBalancer x = untried();
        for (int k = 0; k < 3; k++) {
            if (k != missing) {
                x.trial(k, 5, 5);
            }
        }
        return x;
    }

    /** D is 0: BEARINGS 0 and 1 are told the same. */
    private static RotorBalancer alike() {
        RotorBalancer x = Edges.busy();
        for (int i = 0; i < 4; i++) {
            x.bearing(i / 2, i % 2, 0, 3);
            x.bearing(i / 2, i % 2, 1, 4);
        }
        x.trial(0, 0, 0);
        x.trial(1, 7, 3);
        x.trial(2, 5, 4);
        return x;
    }

    // Promise 20: "ZERO" (Terms: "ZERO, if D is 0").
    private static void foundZero() {
        Edges.refused("alike", BearingsEdgesTest::alike, Check.ZERO, x -> x.found(0, 0));
        Edges.refused("alike", BearingsEdgesTest::alike, Check.ZERO, x -> x.found(1, 5));
        Edges.refused("no GAINS", () -> gains(0, 0, 0, 0), Check.ZERO, x -> x.found(0, 3));
        Edges.refused("2 by 3 and 3 by 2", () -> gains(2, 6, 1, 3), Check.ZERO, x -> x.found(1, 3));
        Edges.refused("PLANE 0 is not seen", () -> gains(0, 6, 0, 3), Check.ZERO, x -> x.found(1, 3));
        Check.due("just not", gains(2, 6, 1, 4).found(0, 3), 1);
    }

    private static RotorBalancer gains(int... gain) {
        RotorBalancer x = Edges.busy();
        for (int i = 0; i < 4; i++) {
            x.bearing(i / 2, i % 2, 0, gain[i]);
            x.bearing(i / 2, i % 2, 1, 0);
        }
        x.trial(0, 0, 0);
        x.trial(1, 7, 3);
        x.trial(2, 5, 4);
        return x;
    }

    // Promise 20: "NOT .. ZERO": in this order.
    private static void foundNotBeforeZero() {
        RotorBalancer x = new RotorBalancer();
        for (int i = 0; i < 4; i++) {
            x.bearing(i / 2, i % 2, 0, 0);
        }
        for (int k = 0; k < 2; k++) {
            x.trial(k, 1, 1);
            Check.due("not all", x.found(0, 0), Check.NOT);
        }
        x.trial(2, 1, 1);
        Check.due("all", x.found(0, 0), Check.ZERO);
    }

    // Promise 20: "OVER": no PULL, GAIN, LAG comes near to it; the largest are found as they are.
    private static void foundLargest() {
        for (int lag = 0; lag < 12; lag++) {
            RotorBalancer x = new RotorBalancer();
            for (int i = 0; i < 8; i++) {
                x.lump(99, 1, i % 2 == 0 ? 7 : 9);
            }
            for (int i = 0; i < 4; i++) {
                x.bearing(i / 2, i % 2, 0, 9 - i);
                x.bearing(i / 2, i % 2, 1, i == 0 ? lag : i);
            }
            x.trial(0, 0, 0);
            x.trial(1, 97, 11);
            x.trial(2, 98, 5);
            for (int plane = 0; plane < 2; plane++) {
                Check.due("found", x.found(plane, 4 + plane), 1);
                for (int part = 0; part < 5; part++) {
                    Check.due("found, LAG " + lag, x.part(4 + plane, part), x.pull(plane, part));
                }
            }
        }
    }

    // Promise 20: "FOUND in a PLANE comes to a REGISTER": of nothing, and to the first, the last REGISTER.
    private static void foundNothing() {
        RotorBalancer x = new RotorBalancer();
        x.put(0, 1, 2, 3, 4, 5);
        x.put(5, 1, 2, 3, 4, 5);
        x.trial(0, 0, 0);
        x.trial(1, 1, 0);
        x.trial(2, 99, 11);
        Check.due("found", x.found(0, 0), 1);
        Check.dueNumber("nothing", x, 0, 0, 0, 0, 0, 1);
        Check.due("found", x.found(1, 5), 1);
        Check.dueNumber("nothing", x, 5, 0, 0, 0, 0, 1);
        Check.due("kept", x.count(3), 3);
    }

    // Promise 21: "BAD", before "NOT".
    private static void effectBad() {
        for (int bad : NEITHER) {
            Edges.refused("effect: PLANE " + bad, Check.BAD, x -> x.effect(bad, 0, 0));
            Edges.refused("effect: BEARING " + bad, Check.BAD, x -> x.effect(0, bad, 0));
            Edges.refused("BAD before NOT", BearingsEdgesTest::untried, Check.BAD, x -> x.effect(bad, 0, 0));
            Edges.refused("BAD before NOT", BearingsEdgesTest::untried, Check.BAD, x -> x.effect(0, bad, 0));
        }
        for (int bad : new int[] {-1, 6, Edges.LEAST, Edges.MOST}) {
            Edges.refused("effect: REGISTER " + bad, Check.BAD, x -> x.effect(0, 0, bad));
            Edges.refused("BAD before NOT", BearingsEdgesTest::untried, Check.BAD, x -> x.effect(0, 0, bad));
        }
    }

    // Promise 21: "NOT: TRIAL 0, or that of the PLANE, is not kept".
    private static void effectNot() {
        for (int i = 0; i < 4; i++) {
            int plane = i / 2;
            int b = i % 2;
            Edges.refused("no TRIAL 0", () -> without(0), Check.NOT, x -> x.effect(plane, b, 1));
            Edges.refused("not that of the PLANE", () -> without(plane + 1), Check.NOT, x -> x.effect(plane, b, 1));
            Edges.refused("none", BearingsEdgesTest::untried, Check.NOT, x -> x.effect(plane, b, 1));
        }
    }

    // Promise 21: that of the other PLANE need not be kept.
    private static void effectNeedsTwo() {
        for (int i = 0; i < 4; i++) {
            RotorBalancer x = new RotorBalancer();
            x.trial(i / 2 + 1, 3, 3);
            x.trial(0, 0, 0);
            Check.due("two are enough", x.effect(i / 2, i % 2, 2), 1);
            Check.dueNumber("GAIN", x, 2, i / 2 == i % 2 ? 2 : 1, 0, 0, 0, 1);
        }
    }

    // Promise 21: "EFFECT of a PLANE on a BEARING comes to a REGISTER": of GAINS 0 and 9, LAGS 0 to 11, at all ANGLES;
    // "OVER": none of these comes near to it.
    private static void effectEnds() {
        for (int lag = 0; lag < 12; lag++) {
            RotorBalancer x = new RotorBalancer();
            x.lump(99, 4, 0);
            x.bearing(0, 0, 0, 9);
            x.bearing(0, 0, 1, lag);
            x.bearing(1, 0, 0, 0);
            x.trial(0, 0, 0);
            x.trial(1, 99, 11 - lag);
            Check.due("GAIN 9", x.effect(0, 0, 0), 1);
            Check.due("GAIN 0", x.effect(0, 1, 5), 1);
            Check.dueNumber("GAIN 0", x, 5, 0, 0, 0, 0, 1);
            RotorBalancer way = new RotorBalancer();
            way.lump(9, lag, 0);
            for (int part = 0; part < 5; part++) {
                Check.due("GAIN 9, LAG " + lag, x.part(0, part), way.pull(0, part));
            }
        }
    }
}
