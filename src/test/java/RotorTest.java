/** Promises 7 to 16: lumps, holes, what is lawful, sizes, limit, pulls, quiet. */
public final class RotorTest {
    public static void main(String[] args) {
        lumps();
        lumpRefusals();
        drill();
        fill();
        lawful();
        sizes();
        limit();
        pullsOfLumps();
        pullsOfHoles();
        pullRefusals();
        quiet();
        Check.end();
    }

    private static void lumps() {
        RotorBalancer x = new RotorBalancer();
        Check.due("none", x.unlump(), Check.NOT);
        for (int i = 0; i < 8; i++) {
            Check.due("lump", x.lump(i == 0 ? 1 : 99, i == 0 ? 0 : 11, i == 0 ? 0 : 10), i);
        }
        Check.due("full", x.lump(1, 0, 0), Check.FULL);
        Check.due("count", x.count(0), 8);
        for (int i = 7; i >= 0; i--) {
            Check.due("unlump", x.unlump(), i);
        }
        Check.due("none", x.unlump(), Check.NOT);
        Check.due("count", x.count(0), 0);
        x.lump(3, 0, 10);
        x.lump(5, 3, 10);
        x.unlump();
        Check.duePull("the last is gone", x, 1, 3, 0, 0, 0, 1);
        Check.due("again", x.lump(7, 3, 10), 1);
        Check.duePull("another", x, 1, 3, 0, 7, 0, 1);
    }

    private static void lumpRefusals() {
        RotorBalancer x = new RotorBalancer();
        int[][] bad = {
            {0, 0, 0}, {-1, 0, 0}, {100, 0, 0}, {1, -1, 0}, {1, 12, 0}, {1, 0, -1}, {1, 0, 11},
            {Integer.MIN_VALUE, 0, 0}, {1, Integer.MAX_VALUE, 0}, {1, 0, Integer.MIN_VALUE}
        };
        for (int[] v : bad) {
            Check.due("bad lump", x.lump(v[0], v[1], v[2]), Check.BAD);
        }
        Check.due("none made", x.count(0), 0);
        for (int i = 0; i < 8; i++) {
            x.lump(1, 0, 0);
        }
        Check.due("BAD before FULL", x.lump(0, 0, 0), Check.BAD);
    }

    private static void drill() {
        RotorBalancer x = new RotorBalancer();
        Check.due("first", x.drill(0, 0, 1), 1);
        Check.due("second", x.drill(0, 11, 9), 2);
        Check.due("the other plane", x.drill(1, 0, 9), 1);
        Check.due("has one", x.drill(0, 0, 2), Check.NOT);
        Check.due("as it was", x.hole(0, 0), 1);
        Check.due("size", x.hole(0, 11), 9);
        Check.due("count", x.count(1), 2);
        Check.due("count", x.count(2), 1);
        x.lawful(1, 4095 - 4);
        Check.due("not lawful", x.drill(1, 2, 3), Check.NOT);
        Check.due("lawful in the other plane", x.drill(0, 2, 3), 3);
        int[][] bad = {{-1, 0, 1}, {2, 0, 1}, {0, -1, 1}, {0, 12, 1}, {0, 1, 0}, {0, 1, 10}, {0, 1, -1}, {0, 0, 10}};
        for (int[] v : bad) {
            Check.due("bad drill", x.drill(v[0], v[1], v[2]), Check.BAD);
        }
        for (int k = 0; k < 12; k++) {
            x.drill(0, k, 4);
        }
        Check.due("everywhere", x.count(1), 12);
    }

    private static void fill() {
        RotorBalancer x = new RotorBalancer();
        x.drill(1, 4, 7);
        Check.due("none in plane 0", x.fill(0, 4), Check.NOT);
        Check.due("hole", x.hole(1, 4), 7);
        x.lawful(1, 0);
        Check.due("fill where it is not lawful", x.fill(1, 4), 7);
        Check.due("filled", x.fill(1, 4), Check.NOT);
        Check.due("no hole", x.hole(1, 4), 0);
        Check.due("count", x.count(2), 0);
        int[][] bad = {{-1, 0}, {2, 0}, {0, -1}, {0, 12}, {Integer.MIN_VALUE, 0}, {0, Integer.MAX_VALUE}};
        for (int[] v : bad) {
            Check.due("bad fill", x.fill(v[0], v[1]), Check.BAD);
            Check.due("bad hole", x.hole(v[0], v[1]), Check.BAD);
        }
    }

    private static void lawful() {
        RotorBalancer x = new RotorBalancer();
        x.drill(0, 3, 2);
        Check.due("what they were", x.lawful(0, 5), 4095);
        Check.due("what they were", x.lawful(0, 0), 5);
        Check.due("what they were", x.lawful(1, 4095), 4095);
        Check.due("holes stay", x.hole(0, 3), 2);
        Check.due("beyond", x.lawful(0, 4096), Check.BAD);
        Check.due("below", x.lawful(0, -1), Check.BAD);
        Check.due("plane", x.lawful(2, 1), Check.BAD);
        Check.due("plane", x.lawful(-1, 1), Check.BAD);
        Check.due("as it was", x.lawful(0, 1), 0);
    }

    private static void sizes() {
        RotorBalancer x = new RotorBalancer();
        Check.due("what they were", x.sizes(1 << 9), 22);
        Check.due("what they were", x.sizes(2), 512);
        Check.due("count", x.count(7), 2);
        Check.due("three", x.sizes(2 | 4 | 512), 2);
        int[] bad = {0, 1, 3, 2 | 4 | 8 | 16, 1022, 1024, 1026, -1, Integer.MIN_VALUE, Integer.MIN_VALUE | 2};
        for (int bits : bad) {
            Check.due("sizes(" + bits + ")", x.sizes(bits), Check.BAD);
        }
        Check.due("as it was", x.count(7), 2 | 4 | 512);
    }

    private static void limit() {
        RotorBalancer x = new RotorBalancer();
        Check.due("at first", x.limit(99), 1);
        Check.due("what it was", x.limit(0), 99);
        Check.due("100", x.limit(100), Check.BAD);
        Check.due("-1", x.limit(-1), Check.BAD);
        Check.due("as it was", x.count(6), 0);
    }

    private static void pullsOfLumps() {
        for (int k = 0; k < 12; k++) {
            RotorBalancer x = new RotorBalancer();
            x.lump(20, k, 4);
            for (int i = 0; i < 4; i++) {
                Check.due("plane 0, angle " + k, x.pull(0, i), 6 * Check.WAYS[k][i]);
                Check.due("plane 1, angle " + k, x.pull(1, i), 4 * Check.WAYS[k][i]);
            }
            Check.due("by", x.pull(0, 4), 1);
        }
        RotorBalancer x = new RotorBalancer();
        x.lump(10, 1, 3);
        Check.duePull("7 by the way", x, 0, 0, 7, 7, 0, 2, 49, 0, 0, 0, 1);
        Check.duePull("3 by the way", x, 1, 0, 3, 3, 0, 2, 9, 0, 0, 0, 1);
        x.lump(1, 2, 7);
        Check.duePull("together", x, 0, 3, 70, 70, 3, 20, 4909, 210, 0, 0, 100);
        x.lump(1, 8, 7);
        Check.duePull("and back", x, 0, 0, 7, 7, 0, 2, 49, 0, 0, 0, 1);
        x.lump(99, 0, 0);
        Check.duePull("far from plane 1", x, 1, 0, 3, 3, 0, 2);
        Check.duePull("at plane 0", x, 0, 198, 7, 7, 0, 2);
    }

    private static void pullsOfHoles() {
        for (int k = 0; k < 12; k++) {
            RotorBalancer x = new RotorBalancer();
            x.drill(1, k, 6);
            for (int i = 0; i < 4; i++) {
                Check.due("hole at " + k, x.pull(1, i), -3 * Check.WAYS[k][i]);
                Check.due("not here", x.pull(0, i), 0);
            }
            Check.due("square", x.pull(1, 5), 36);
        }
        RotorBalancer x = new RotorBalancer();
        x.lump(1, 0, 5);
        x.drill(0, 1, 1);
        Check.duePull("lump less hole", x, 0, 1, -1, -1, 0, 2, 5, -2, 0, 0, 4);
        x.fill(0, 1);
        Check.duePull("filled", x, 0, 1, 0, 0, 0, 2, 1, 0, 0, 0, 4);
    }

    private static void pullRefusals() {
        RotorBalancer x = new RotorBalancer();
        int[][] bad = {{-1, 0}, {2, 0}, {0, -1}, {0, 10}, {Integer.MAX_VALUE, 0}, {0, Integer.MIN_VALUE}};
        for (int[] v : bad) {
            Check.due("bad pull", x.pull(v[0], v[1]), Check.asLong(Check.BAD));
        }
        Check.due("quiet -1", x.quiet(-1), Check.BAD);
        Check.due("quiet 2", x.quiet(2), Check.BAD);
    }

    private static void quiet() {
        RotorBalancer x = new RotorBalancer();
        x.lump(3, 7, 10);
        x.limit(2);
        Check.due("3 over 2", x.quiet(1), 0);
        Check.due("the other plane", x.quiet(0), 1);
        x.limit(3);
        Check.due("no more than 3", x.quiet(1), 1);
        x.unlump();
        x.lump(1, 0, 10);
        x.lump(1, 1, 10);
        Check.duePull("2 and ROOT", x, 1, 2, 1, 1, 0, 2, 2, 1, 0, 0, 1);
        x.limit(2);
        Check.due("below 4", x.quiet(1), 1);
        x.limit(1);
        Check.due("above 1", x.quiet(1), 0);
        x.unlump();
        x.lump(1, 5, 10);
        Check.duePull("2 less ROOT", x, 1, 2, -1, 1, 0, 2, 2, -1, 0, 0, 1);
        Check.due("below 1", x.quiet(1), 1);
        x = new RotorBalancer();
        x.lump(1, 3, 10);
        x.lump(1, 2, 10);
        Check.duePull("2 and ROOT out of turned ones", x, 1, 1, 0, 2, 1, 2, 2, 1, 0, 0, 1);
        Check.due("above 1", x.quiet(1), 0);
        x.unlump();
        x.lump(1, 10, 10);
        Check.duePull("2 less ROOT out of turned ones", x, 1, 1, 0, 2, -1, 2, 2, -1, 0, 0, 1);
        Check.due("below 1", x.quiet(1), 1);
        x = new RotorBalancer();
        x.lump(1, 0, 10);
        x.lump(1, 5, 10);
        x.limit(0);
        Check.due("above 0", x.quiet(1), 0);
        Check.due("0", x.quiet(0), 1);
        x.drill(1, 0, 1);
        x.drill(1, 5, 1);
        Check.due("all taken away", x.quiet(1), 1);
    }
}
