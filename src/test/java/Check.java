/** What the tests share: each tells the answers that are not as due and ends with exit code 1 if there was one. */
final class Check {
    static final int BAD = RotorBalancer.BAD;
    static final int NOT = RotorBalancer.NOT;
    static final int FULL = RotorBalancer.FULL;
    static final int OVER = RotorBalancer.OVER;
    static final int ZERO = RotorBalancer.ZERO;
    static final int NONE = RotorBalancer.NONE;
    static final int NULL = -11;
    static final int INDEX = -12;
    static final int SIZE = -13;

    /** a, b, c, e of the WAY of each ANGLE, each by 2. */
    static final int[][] WAYS = {
        {2, 0, 0, 0}, {0, 1, 1, 0}, {1, 0, 0, 1}, {0, 0, 2, 0}, {-1, 0, 0, 1}, {0, -1, 1, 0},
        {-2, 0, 0, 0}, {0, -1, -1, 0}, {-1, 0, 0, -1}, {0, 0, -2, 0}, {1, 0, 0, -1}, {0, 1, -1, 0}
    };

    private static int looked = 0;
    private static int wrong = 0;

    private Check() {
    }

    static void due(String call, long got, long want) {
        looked++;
        if (got != want) {
            wrong++;
            System.out.println(call + " answered " + got + ", due is " + want);
        }
    }

    static void dueTrue(String what, boolean holds) {
        due(what, holds ? 1 : 0, 1);
    }

    /** A refusal as it is told where the answer is a long. */
    static long asLong(int refusal) {
        return Long.MIN_VALUE - refusal;
    }

    static void dueNumber(String what, RotorBalancer x, int r, long... want) {
        for (int part = 0; part < 5; part++) {
            due(what + ": part(" + r + ", " + part + ")", x.part(r, part), want[part]);
        }
    }

    static void duePull(String what, RotorBalancer x, int plane, long... want) {
        for (int part = 0; part < want.length; part++) {
            due(what + ": pull(" + plane + ", " + part + ")", x.pull(plane, part), want[part]);
        }
    }

    static void dueReading(String what, RotorBalancer x, int k, int b, long... want) {
        for (int part = 0; part < 5; part++) {
            due(what + ": reading(" + k + ", " + b + ", " + part + ")", x.reading(k, b, part), want[part]);
        }
    }

    /** What fewest answers of PLANE 1. */
    static void dueFewest(String what, RotorBalancer x, int n, int holes, int bits, int figures) {
        due(what + ": holes", x.fewest(1, n, 0), holes);
        due(what + ": angles", x.fewest(1, n, 1), bits);
        due(what + ": sizes", x.fewest(1, n, 2), figures);
    }

    /** What split answers of PLANE 0. */
    static void dueSplit(String what, RotorBalancer x, int angle, int moment, int... want) {
        for (int i = 0; i < 8; i++) {
            String call = what + ": split(0, " + angle + ", " + moment + ", " + i + ")";
            due(call, x.split(0, angle, moment, i), want[i]);
        }
    }

    /** LUMPS at PLANE 1: MOMENT and ANGLE by turns. */
    static RotorBalancer withLumps(int limit, int sizes, int... lumps) {
        RotorBalancer x = new RotorBalancer();
        x.limit(limit);
        x.sizes(sizes);
        for (int i = 0; i < lumps.length; i += 2) {
            x.lump(lumps[i], lumps[i + 1], 10);
        }
        return x;
    }

    /** A REGISTER becomes what longs it should hold, by way of a SHEET. */
    static void load(RotorBalancer x, int r, int sheet, int[] values, int[] doublings) {
        x.sheet(sheet, 4);
        for (int i = 0; i < 4; i++) {
            due("lay in load", x.lay(sheet, i, values[i], doublings[i]), 1);
        }
        due("read in load", x.read(r, sheet, 0), 1);
    }

    static void end() {
        System.out.println(looked + " answers looked at, " + wrong + " not as due");
        if (wrong != 0) {
            System.exit(1);
        }
    }
}
