/** Promises 22 to 25: fewest, drillAll, split, nearest. */
public final class HolesTest {
    public static void main(String[] args) {
        nothingToDo();
        leastSquare();
        alikeAngles();
        alikeSizes();
        twoHoles();
        figuresByAngles();
        threeAndFour();
        whereHolesMayBe();
        fewestRefusals();
        drillAll();
        splits();
        splitNone();
        splitRefusals();
        nearest();
        nearestEnds();
        Check.end();
    }

    private static void nothingToDo() {
        RotorBalancer x = Check.withLumps(3, 22, 3, 5);
        Check.dueFewest("quiet as it is", x, 0, 0, 0, 0);
        Check.dueFewest("quiet as it is", x, 4, 0, 0, 0);
        x.limit(2);
        Check.dueFewest("none allowed", x, 0, Check.NONE, 0, 0);
        Check.dueFewest("one is enough", x, 1, 1, 32, 2);
        Check.due("plane 0 is quiet", x.fewest(0, 1, 0), 0);
    }

    private static void leastSquare() {
        Check.dueFewest("2 leaves less than 1", Check.withLumps(2, 6, 3, 0), 4, 1, 1, 2);
        Check.dueFewest("2 leaves less than 4", Check.withLumps(2, 20, 3, 0), 4, 1, 1, 4 - 2);
        Check.dueFewest("4 leaves less than 1", Check.withLumps(3, 18, 4, 0), 4, 1, 1, 4);
        Check.dueFewest("9 leaves nothing", Check.withLumps(4, 256 | 512, 9, 0), 4, 1, 1, 9);
    }

    private static void alikeAngles() {
        RotorBalancer x = Check.withLumps(2, 4, 3, 0);
        x.lawful(1, 4094);
        Check.dueFewest("1 and 11 are alike", x, 4, 1, 2, 2);
        x.lawful(1, 4095 - 3);
        Check.dueFewest("11 alone", x, 4, 1, 2048, 2);
    }

    private static void alikeSizes() {
        RotorBalancer x = Check.withLumps(2, 2 | 32, 3, 0);
        x.lawful(1, 1);
        Check.dueFewest("1 and 5 leave 2", x, 4, 1, 1, 1);
    }

    private static void twoHoles() {
        RotorBalancer x = Check.withLumps(1, 16, 7, 0);
        x.lawful(1, 2050);
        Check.dueFewest("two by 4 roots", x, 2, 2, 2050, 44);
        Check.dueFewest("one is too few", x, 1, Check.NONE, 0, 0);
        x.limit(0);
        Check.dueFewest("not quite", x, 4, Check.NONE, 0, 0);
    }

    private static void figuresByAngles() {
        Check.dueFewest("1 at 1, 4 at 11", Check.withLumps(0, 22, 1, 1, 4, 11), 4, 2, 2050, 14);
        Check.dueFewest("4 at 1, 1 at 11", Check.withLumps(0, 22, 4, 1, 1, 11), 4, 2, 2050, 41);
    }

    private static void threeAndFour() {
        RotorBalancer x = Check.withLumps(0, 22, 4, 0, 2, 3, 1, 7);
        Check.dueFewest("2 at 3 is 2 at 1 and 2 at 5, 1 at 7 takes 1 of it: 1 is before 3", x, 4, 3, 1 | 2 | 32, 412);
        Check.dueFewest("two are too few", x, 2, Check.NONE, 0, 0);
        x = Check.withLumps(0, 16, 8, 0);
        Check.dueFewest("one at each angle", x, 2, Check.NONE, 0, 0);
        Check.dueFewest("one at each angle", x, 3, 3, 1 | 4 | 1024, 444);
        x = Check.withLumps(0, 512, 9, 0, 9, 1, 9, 2, 9, 3);
        Check.dueFewest("four", x, 4, 4, 15, 9999);
        Check.dueFewest("three are too few", x, 3, Check.NONE, 0, 0);
    }

    private static void whereHolesMayBe() {
        RotorBalancer x = Check.withLumps(0, 22, 4, 6);
        Check.dueFewest("at 6", x, 1, 1, 64, 4);
        x.drill(1, 6, 2);
        Check.dueFewest("6 has one", x, 1, Check.NONE, 0, 0);
        Check.dueFewest("by 5 and 7 no whole, by 4 and 8", x, 2, 2, 16 | 256, 22);
        x.lawful(1, 4095 - 16);
        Check.dueFewest("4 is not lawful", x, 2, Check.NONE, 0, 0);
        x.lawful(1, 0);
        Check.dueFewest("none is lawful", x, 4, Check.NONE, 0, 0);
    }

    private static void fewestRefusals() {
        RotorBalancer x = new RotorBalancer();
        int[][] bad = {{-1, 0, 0}, {2, 0, 0}, {0, -1, 0}, {0, 5, 0}, {0, 0, -1}, {0, 0, 3}, {0, Integer.MAX_VALUE, 0}};
        for (int[] v : bad) {
            Check.due("bad fewest", x.fewest(v[0], v[1], v[2]), Check.BAD);
        }
        int[][] badAll = {{-1, 0}, {2, 0}, {0, -1}, {0, 5}};
        for (int[] v : badAll) {
            Check.due("bad drillAll", x.drillAll(v[0], v[1]), Check.BAD);
        }
    }

    private static void drillAll() {
        RotorBalancer x = Check.withLumps(0, 22, 1, 1, 4, 11);
        x.drill(1, 5, 3);
        x.drill(1, 11, 3);
        Check.due("3 at 5 is in the way", x.drillAll(1, 1), Check.NOT);
        Check.due("nothing drilled", x.count(2), 2);
        x.fill(1, 5);
        x.fill(1, 11);
        Check.due("two", x.drillAll(1, 3), 2);
        Check.due("at 1", x.hole(1, 1), 1);
        Check.due("at 11", x.hole(1, 11), 4);
        Check.due("count", x.count(2), 2);
        Check.due("quiet", x.quiet(1), 1);
        Check.due("no more", x.drillAll(1, 3), 0);
        Check.due("count", x.count(2), 2);
        Check.due("plane 0 has none", x.count(1), 0);
    }

    private static void splits() {
        RotorBalancer x = new RotorBalancer();
        Check.dueSplit("all there", x, 7, 99, 7, 99, 0, 1, Check.NONE, 0, 0, 1);
        x.lawful(0, 1 << 11 | 1 << 1);
        Check.dueSplit("1 and 1, by ROOT", x, 0, 5, 11, 0, 5, 3, 1, 0, 5, 3);
        x.lawful(0, 1 << 3 | 1 << 6);
        Check.dueSplit("1 and 2, by 2", x, 4, 5, 3, 0, 5, 2, 6, 5, 0, 2);
        Check.dueSplit("2 and 1, by 2", x, 5, 4, 3, 2, 0, 1, 6, 0, 2, 1);
        x.lawful(0, 1 << 10 | 1 << 2);
        Check.dueSplit("1 and 3, by ROOT", x, 11, 5, 10, 0, 10, 3, 2, 0, 5, 3);
        Check.dueSplit("2 and 2, by ROOT", x, 0, 5, 10, 5, 0, 1, 2, 5, 0, 1);
        Check.dueSplit("3 and 1, by ROOT", x, 1, 6, 10, 0, 2, 1, 2, 0, 4, 1);
        x.lawful(0, 1 << 4 | 1 << 9);
        Check.dueSplit("1 and 4, by 1", x, 5, 99, 4, 0, 99, 1, 9, 99, 0, 1);
        Check.dueSplit("2 and 3, by 1", x, 6, 1, 4, 2, 0, 1, 9, 0, 1, 1);
        Check.dueSplit("3 and 2, by 1", x, 7, 1, 4, 0, 1, 1, 9, 2, 0, 1);
        x.drill(0, 4, 3);
        Check.dueSplit("a hole is no matter", x, 4, 2, 4, 2, 0, 1, Check.NONE, 0, 0, 1);
        Check.due("the other plane", x.split(1, 6, 1, 0), 6);
    }

    private static void splitNone() {
        RotorBalancer x = new RotorBalancer();
        x.lawful(0, 1 << 4 | 1 << 9);
        Check.due("4 and 3", x.split(0, 0, 1, 0), Check.NOT);
        x.lawful(0, 1 | 1 << 6);
        Check.due("3 and 3", x.split(0, 3, 1, 0), Check.NOT);
        Check.due("1 and 5", x.split(0, 1, 1, 7), Check.NOT);
        Check.due("lawful", x.split(0, 6, 1, 1), 1);
        x.lawful(0, 4);
        Check.due("one alone", x.split(0, 3, 1, 4), Check.NOT);
        x.lawful(0, 0);
        Check.due("none lawful", x.split(0, 2, 1, 0), Check.NOT);
    }

    private static void splitRefusals() {
        RotorBalancer x = new RotorBalancer();
        x.lawful(0, 0);
        int[][] bad = {
            {-1, 0, 1, 0}, {2, 0, 1, 0}, {0, -1, 1, 0}, {0, 12, 1, 0}, {0, 0, 0, 0}, {0, 0, 100, 0},
            {0, 0, 1, -1}, {0, 0, 1, 8}, {1, 0, -1, 0}
        };
        for (int[] v : bad) {
            Check.due("bad split", x.split(v[0], v[1], v[2], v[3]), Check.BAD);
        }
    }

    private static void nearest() {
        RotorBalancer x = new RotorBalancer();
        for (int k = 0; k < 12; k++) {
            Check.due("at it", x.nearest(0, 240 * k), k);
            Check.due("half way, the least", x.nearest(0, 240 * k + 120), k == 11 ? 0 : k);
            Check.due("more than half way", x.nearest(0, 240 * k + 121), (k + 1) % 12);
            Check.due("once round", x.nearest(0, 240 * k + 2880 - 119), k);
            Check.due("once round the other way", x.nearest(0, 240 * k - 2880 * 3 + 119), k);
        }
        x.lawful(1, 1 << 1 | 1 << 7);
        Check.due("90 from both", x.nearest(1, 8 * 120), 1);
        Check.due("90 from both, below 0", x.nearest(1, -8 * 60), 1);
        Check.due("a bit nearer to 7", x.nearest(1, 8 * 120 + 1), 7);
        Check.due("a bit nearer to 7", x.nearest(1, -8 * 60 - 1), 7);
        x.lawful(1, 1 << 11);
        Check.due("one alone", x.nearest(1, 8 * 150), 11);
        x.lawful(1, 0);
        Check.due("none", x.nearest(1, 0), Check.NONE);
        Check.due("plane", x.nearest(-1, 0), Check.BAD);
        Check.due("plane", x.nearest(2, 0), Check.BAD);
    }

    /** Beyond 24 bits a float is rounded; 2 to the 31 by 8 is 16 degrees and whole rounds. */
    private static void nearestEnds() {
        RotorBalancer x = new RotorBalancer();
        Check.due("most", x.nearest(0, Integer.MAX_VALUE), 1);
        Check.due("least", x.nearest(0, Integer.MIN_VALUE), 11);
        int halfWay = 2880 * 372827 + 120;
        int rounded = 0;
        for (int v = halfWay - 200; v < halfWay + 200; v++) {
            Check.due("nearest " + v, x.nearest(0, v), nearestByFloats(v));
            rounded += nearestByFloats(v) != (v < halfWay + 1 ? 0 : 1) ? 1 : 0;
        }
        Check.dueTrue("some are rounded over half the way", rounded > 0);
    }

    /** As the document tells it, all ANGLES lawful. */
    private static int nearestByFloats(int v) {
        float degrees = (float) v / 8f % 360f;
        degrees = degrees < 0 ? degrees + 360f : degrees;
        int best = 0;
        for (int k = 1; k < 12; k++) {
            if (far(degrees, k) < far(degrees, best)) {
                best = k;
            }
        }
        return best;
    }

    private static float far(float degrees, int k) {
        float f = Math.abs(degrees - 30f * k);
        return Math.min(f, 360f - f);
    }
}
