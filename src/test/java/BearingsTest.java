/** Promises 17 to 21: bearings, trials, readings, what is found, effects. */
public final class BearingsTest {
    public static void main(String[] args) {
        bearing();
        bearingRefusals();
        readings();
        lags();
        readingRefusals();
        trialRefusals();
        whatForgets();
        whatKeeps();
        effects();
        found();
        foundRefusals();
        Check.end();
    }

    private static RotorBalancer withTrials() {
        RotorBalancer x = new RotorBalancer();
        x.lump(10, 3, 4);
        x.drill(1, 0, 2);
        Check.due("trial 1", x.trial(1, 5, 3), 1);
        Check.due("trial 2", x.trial(2, 9, 7), 2);
        Check.due("trial 0", x.trial(0, 0, 0), 3);
        return x;
    }

    private static void bearing() {
        RotorBalancer x = new RotorBalancer();
        for (int b = 0; b < 2; b++) {
            for (int p = 0; p < 2; p++) {
                Check.due("gain", x.bearing(b, p, 0, 3 + b + 2 * p), b == p ? 2 : 1);
                Check.due("lag", x.bearing(b, p, 1, 8 + b + 2 * p), 0);
            }
        }
        for (int b = 0; b < 2; b++) {
            for (int p = 0; p < 2; p++) {
                Check.due("gain as told", x.bearing(b, p, 0, 9), 3 + b + 2 * p);
                Check.due("lag as told", x.bearing(b, p, 1, 0), 8 + b + 2 * p);
            }
        }
        Check.due("gain 0", x.bearing(0, 1, 0, 0), 9);
        Check.due("gain 0", x.bearing(0, 1, 0, 1), 0);
    }

    private static void bearingRefusals() {
        RotorBalancer x = withTrials();
        int[][] bad = {
            {-1, 0, 0, 0}, {2, 0, 0, 0}, {0, -1, 0, 0}, {0, 2, 0, 0}, {0, 0, -1, 0}, {0, 0, 2, 0},
            {0, 0, 0, -1}, {0, 0, 0, 10}, {0, 0, 1, -1}, {0, 0, 1, 12}
        };
        for (int[] v : bad) {
            Check.due("bad bearing", x.bearing(v[0], v[1], v[2], v[3]), Check.BAD);
        }
        Check.due("trials are kept", x.count(3), 3);
        Check.due("as it was", x.bearing(0, 0, 0, 2), 2);
        Check.due("lag 11", x.bearing(0, 0, 1, 11), 0);
    }

    private static void readings() {
        RotorBalancer x = withTrials();
        Check.duePull("plane 0", x, 0, 0, 0, 6, 0, 1);
        Check.duePull("plane 1", x, 1, -2, 0, 4, 0, 1);
        Check.dueReading("as it is", x, 0, 0, -2, 0, 16, 0, 1);
        Check.dueReading("as it is", x, 0, 1, -4, 0, 14, 0, 1);
        Check.dueReading("5 more in plane 0", x, 1, 0, -2, 0, 26, 0, 1);
        Check.dueReading("5 more in plane 0", x, 1, 1, -4, 0, 19, 0, 1);
        Check.dueReading("9 more in plane 1", x, 2, 0, -4, -9, 23, 0, 2);
        Check.dueReading("9 more in plane 1", x, 2, 1, -4, -9, 5, 0, 1);
        Check.due("again", x.trial(1, 1, 0), 3);
        Check.dueReading("another", x, 1, 0, 0, 0, 16, 0, 1);
    }

    private static void lags() {
        RotorBalancer x = new RotorBalancer();
        x.lump(10, 0, 5);
        x.bearing(0, 0, 1, 1);
        x.bearing(0, 1, 1, 9);
        x.bearing(0, 1, 0, 3);
        x.trial(0, -1, 99);
        Check.dueReading("lags", x, 0, 0, 0, 5, -10, 0, 1);
        x.bearing(0, 1, 0, 0);
        x.trial(0, 0, 0);
        Check.dueReading("gain 0", x, 0, 0, 0, 5, 5, 0, 1);
    }

    private static void readingRefusals() {
        RotorBalancer x = new RotorBalancer();
        x.trial(1, 1, 1);
        Check.due("not kept", x.reading(0, 0, 0), Check.asLong(Check.NOT));
        Check.due("not kept", x.reading(2, 1, 4), Long.MIN_VALUE + 3);
        Check.due("kept", x.reading(1, 1, 4), 2);
        int[][] bad = {{-1, 0, 0}, {3, 0, 0}, {0, -1, 0}, {0, 2, 0}, {0, 0, -1}, {0, 0, 5}};
        for (int[] v : bad) {
            Check.due("bad reading", x.reading(v[0], v[1], v[2]), Check.asLong(Check.BAD));
        }
    }

    private static void trialRefusals() {
        RotorBalancer x = new RotorBalancer();
        int[][] bad = {{-1, 1, 1}, {3, 1, 1}, {1, 0, 1}, {1, 100, 1}, {2, 1, -1}, {2, 1, 12}, {2, -5, 3}};
        for (int[] v : bad) {
            Check.due("bad trial", x.trial(v[0], v[1], v[2]), Check.BAD);
        }
        Check.due("none kept", x.count(3), 0);
        Check.due("0 does not look", x.trial(0, 100, 12), 1);
        Check.due("0 again", x.trial(0, 0, 0), 1);
        Check.due("ends", x.trial(2, 99, 11), 2);
        Check.due("ends", x.trial(1, 1, 0), 3);
        Check.due("refused", x.trial(1, 0, 0), Check.BAD);
        Check.due("as it was", x.count(3), 3);
    }

    private static void whatForgets() {
        for (int act = 0; act < 8; act++) {
            RotorBalancer x = withTrials();
            switch (act) {
                case 0:
                    x.lump(1, 1, 1);
                    break;
                case 1:
                    x.unlump();
                    break;
                case 2:
                    x.drill(0, 0, 1);
                    break;
                case 3:
                    x.fill(1, 0);
                    break;
                case 4:
                    x.bearing(0, 0, 0, 2);
                    break;
                case 5:
                    x.bearing(1, 0, 1, 0);
                    break;
                case 6:
                    x.bearing(1, 1, 1, 5);
                    break;
                default:
                    x.sizes(4);
                    Check.due("drillAll", x.drillAll(0, 4), 3);
                    break;
            }
            Check.due("forgotten by act " + act, x.count(3), 0);
            for (int k = 0; k < 3; k++) {
                Check.due("forgotten by act " + act, x.reading(k, 0, 0), Check.asLong(Check.NOT));
            }
        }
    }

    private static void whatKeeps() {
        RotorBalancer x = withTrials();
        x.lawful(0, 7);
        x.sizes(2);
        x.limit(9);
        Check.due("nothing to drill", x.drillAll(0, 4), 0);
        x.limit(0);
        Check.due("no such set", x.drillAll(0, 1), Check.NOT);
        x.fewest(0, 2, 0);
        x.put(0, 1, 1, 1, 1, 1);
        x.sheet(0, 3);
        x.write(0);
        x.lump(0, 0, 0);
        x.drill(1, 0, 3);
        x.drill(0, 5, 3);
        x.fill(0, 5);
        x.trial(2, 0, 0);
        x.found(0, 0);
        x.effect(0, 0, 0);
        x.digest();
        Check.due("kept", x.count(3), 3);
        Check.dueReading("kept", x, 0, 0, -2, 0, 16, 0, 1);
        for (int i = x.count(0); i < 8; i++) {
            x.lump(1, 1, 1);
        }
        x.trial(0, 0, 0);
        Check.due("FULL", x.lump(1, 1, 1), Check.FULL);
        Check.due("kept", x.count(3), 1);
    }

    private static void effects() {
        RotorBalancer x = withTrials();
        long[] gains = {2, 1, 1, 2};
        for (int i = 0; i < 4; i++) {
            Check.due("effect", x.effect(i / 2, i % 2, i), 1);
            Check.dueNumber("effect", x, i, gains[i], 0, 0, 0, 1);
        }
        x.bearing(1, 0, 1, 4);
        x.bearing(1, 0, 0, 7);
        x.trial(1, 13, 6);
        Check.due("no trial 0", x.effect(0, 1, 5), Check.NOT);
        x.trial(0, 0, 0);
        Check.due("effect", x.effect(0, 1, 5), 1);
        Check.dueNumber("7 by the way of 4", x, 5, -7, 0, 0, 7, 2);
        Check.due("no trial 2", x.effect(1, 1, 5), Check.NOT);
        Check.dueNumber("nothing changed", x, 5, -7, 0, 0, 7, 2);
        int[][] bad = {{-1, 0, 0}, {2, 0, 0}, {0, -1, 0}, {0, 2, 0}, {0, 0, -1}, {0, 0, 6}, {1, 0, 6}};
        for (int[] v : bad) {
            Check.due("bad effect", x.effect(v[0], v[1], v[2]), Check.BAD);
        }
    }

    private static void found() {
        RotorBalancer x = withTrials();
        Check.due("found 0", x.found(0, 4), 1);
        Check.dueNumber("found 0", x, 4, 0, 0, 6, 0, 1);
        Check.due("found 1", x.found(1, 5), 1);
        Check.dueNumber("found 1", x, 5, -2, 0, 4, 0, 1);
        x.bearing(0, 0, 1, 5);
        x.bearing(0, 1, 0, 7);
        x.bearing(1, 0, 1, 10);
        x.lump(99, 4, 3);
        x.lump(77, 11, 9);
        x.trial(0, 0, 0);
        x.trial(1, 98, 10);
        x.trial(2, 31, 2);
        for (int plane = 0; plane < 2; plane++) {
            Check.due("found", x.found(plane, plane), 1);
            for (int part = 0; part < 5; part++) {
                Check.due("as it is", x.part(plane, part), x.pull(plane, part));
            }
        }
    }

    private static void foundRefusals() {
        RotorBalancer x = new RotorBalancer();
        x.put(3, 1, 2, 3, 4, 5);
        x.bearing(0, 1, 0, 2);
        x.bearing(1, 0, 0, 2);
        Check.due("no trials", x.found(0, 3), Check.NOT);
        x.trial(0, 0, 0);
        x.trial(2, 1, 1);
        Check.due("not all", x.found(0, 3), Check.NOT);
        x.trial(1, 1, 1);
        Check.due("D is 0", x.found(0, 3), Check.ZERO);
        Check.due("D is 0", x.found(1, 3), Check.ZERO);
        x.bearing(0, 0, 0, 0);
        int[][] bad = {{-1, 0}, {2, 0}, {0, -1}, {0, 6}};
        for (int[] v : bad) {
            Check.due("bad found", x.found(v[0], v[1]), Check.BAD);
        }
        Check.dueNumber("nothing changed", x, 3, 1, 2, 3, 4, 5);
    }
}
