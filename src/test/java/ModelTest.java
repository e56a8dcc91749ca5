import java.util.Arrays;

/** Long runs of calls, the same ones each time, answered by the class and by the Model. */
public final class ModelTest {
    private static final int CALLS = 512;
    private static final String[] NUMBERS = {"reckon", "reckon", "reckon", "part", "compare", "put", "write"};
    private static final String[] ROTOR = {
        "lump", "unlump", "drill", "fill", "hole", "lawful", "sizes", "limit", "pull", "quiet", "count"
    };
    private static final String[] BEARINGS = {"bearing", "trial", "reading", "found", "effect"};
    private static final String[] HOLES = {"fewest", "drillAll", "split", "nearest", "lawful", "lump", "unlump", "limit"};
    private static final String[] SHEETS = {"sheet", "lose", "lay", "get", "copy", "write", "count", "read"};
    private static final String[][] KINDS = {NUMBERS, ROTOR, BEARINGS, HOLES, SHEETS};

    private final int run;
    private final boolean isRough;
    private int calls = 0;
    private long seed;
    private final RotorBalancer x = new RotorBalancer();
    private final Model m = new Model();

    /** A rough run has more numbers that are not as told. */
    private ModelTest(int run, boolean isRough) {
        this.run = run;
        this.isRough = isRough;
        this.seed = 1000003L * run + 7;
    }

    public static void main(String[] args) {
        for (int run = 0; run < 120; run++) {
            new ModelTest(run, run % 7 == 1).go(run % 6);
        }
        Check.end();
    }

    /** Most calls are of one kind; of none more than of others, if there is no such kind. */
    private void go(int favourite) {
        while (calls < CALLS - 12) {
            int kind = favourite == KINDS.length || upTo(9) < 2 ? upTo(KINDS.length - 1) : favourite;
            if (upTo(40) == 0) {
                one("digest");
            } else if (upTo(5) == 0) {
                several(kind);
            } else {
                String name = KINDS[kind][upTo(KINDS[kind].length - 1)];
                one(name, arguments(name, isRough));
            }
        }
        one("digest");
    }

    private void one(String name, int... v) {
        calls++;
        Check.due("run " + run + " call " + calls + ": " + name + Arrays.toString(v), ofClass(name, v), ofModel(name, v));
    }

    /** Calls that lead where single ones seldom come. */
    private void several(int kind) {
        switch (kind) {
            case 0:
                if (upTo(2) == 0) {
                    putLongs();
                } else {
                    compareNear();
                }
                break;
            case 1:
            case 3:
                balance();
                break;
            case 2:
                tryAll();
                break;
            default:
                for (int s = 0; s < 4; s++) {
                    one("sheet", s, between(0, 40));
                    one("write", s);
                }
                break;
        }
    }

    /** A REGISTER gets longs of some size that the others may well have, too. */
    private void putLongs() {
        int s = upTo(3);
        one("sheet", s, 4);
        int far = upTo(62);
        for (int i = 0; i < 4; i++) {
            one("lay", s, i, upTo(2) == 0 ? 0 : between(-9, 9), Math.min(62, upTo(3) == 0 ? far + 1 : far));
        }
        one("read", upTo(5), s, 0);
    }

    /** A whole number set against some roots that are near it, perhaps large. */
    private void compareNear() {
        int s = upTo(3);
        int far = upTo(3) == 0 ? upTo(62) : 0;
        int b = between(-900, 900);
        one("sheet", s, 9);
        one("lay", s, 0, (int) (b * 1.7320508) + between(-1, 1), far);
        one("lay", s, 6, upTo(4) == 0 ? -b : b, far);
        int r = upTo(5);
        int t = upTo(5);
        one("read", r, s, 0);
        one("read", t, s, 5);
        one("compare", r, t);
        one("compare", t, r);
        one("reckon", upTo(3), r, t, upTo(5));
    }

    /** A small PULL, so that some HOLES may do. */
    private void balance() {
        one("unlump");
        one("unlump");
        one("lump", between(1, 12), upTo(11), upTo(10));
        one("lump", between(1, 12), upTo(11), upTo(10));
        int plane = upTo(1);
        int n = upTo(9) == 0 ? 4 : upTo(3);
        for (int what = 0; what < 3; what++) {
            one("fewest", plane, n, what);
        }
        one("drillAll", plane, n);
    }

    private void tryAll() {
        one("bearing", upTo(1), upTo(1), upTo(1), upTo(9));
        one("trial", 0, upTo(3), upTo(3));
        one("trial", 1, between(1, 99), upTo(11));
        one("trial", 2, between(1, 99), upTo(11));
        one("found", upTo(1), upTo(5));
        one("found", upTo(1), upTo(5));
        one("effect", upTo(1), upTo(1), upTo(5));
        one("reading", upTo(2), upTo(1), upTo(4));
    }

    private int upTo(int most) {
        seed = seed * 6364136223846793005L + 1442695040888963407L;
        return (int) ((seed >>> 33) % (most + 1));
    }

    private int between(int least, int most) {
        return least + upTo(most - least);
    }

    /** Now and then one that is just beyond, or far. */
    private int about(int least, int most, boolean isRough) {
        if (upTo(isRough ? 12 : 100) > 0) {
            return between(least, most);
        }
        int[] beyond = {least - 1, most + 1, Integer.MIN_VALUE, Integer.MAX_VALUE};
        return beyond[upTo(3)];
    }

    private int small() {
        int[] some = {0, 0, 0, 1, -1, 2, 3, 12, -30, 1000, -46341, 1 << 30, Integer.MAX_VALUE, Integer.MIN_VALUE};
        return upTo(2) == 0 ? some[upTo(some.length - 1)] : between(-20, 20);
    }

    private int[] arguments(String name, boolean o) {
        switch (name) {
            case "put":
                return new int[] {about(0, 5, o), small(), small(), small(), small(), about(1, upTo(9) == 0 ? 2000000 : 9, o)};
            case "read":
                return new int[] {about(0, 5, o), about(0, 3, o), about(0, upTo(36), o)};
            case "reckon":
                return new int[] {about(0, 3, o), about(0, 5, o), about(0, 5, o), about(0, 5, o)};
            case "part":
                return new int[] {about(0, 5, o), about(0, 4, o)};
            case "compare":
                return new int[] {about(0, 5, o), about(0, 5, o)};
            case "lump":
                return new int[] {about(1, upTo(2) > 0 ? 9 : 99, o), about(0, 11, o), about(0, 10, o)};
            case "drill":
                return new int[] {about(0, 1, o), about(0, 11, o), about(1, 9, o)};
            case "fill":
            case "hole":
                return new int[] {about(0, 1, o), about(0, 11, o)};
            case "lawful":
                return new int[] {about(0, 1, o), bits(o)};
            case "sizes":
                return new int[] {upTo(9) == 0 ? about(0, 1023, o) : 1 << between(1, 9) | 1 << between(1, 9) | 1 << between(1, 9)};
            case "limit":
                return new int[] {upTo(9) == 0 ? about(0, 99, o) : upTo(6)};
            case "pull":
                return new int[] {about(0, 1, o), about(0, 9, o)};
            case "quiet":
                return new int[] {about(0, 1, o)};
            case "bearing":
                int what = about(0, 1, o);
                return new int[] {about(0, 1, o), about(0, 1, o), what, about(0, what == 0 ? 9 : 11, o)};
            case "trial":
                return new int[] {about(0, 2, o), about(1, 99, o), about(0, 11, o)};
            case "reading":
                return new int[] {about(0, 2, o), about(0, 1, o), about(0, 4, o)};
            case "found":
                return new int[] {about(0, 1, o), about(0, 5, o)};
            case "effect":
                return new int[] {about(0, 1, o), about(0, 1, o), about(0, 5, o)};
            case "fewest":
                return new int[] {about(0, 1, o), about(0, upTo(5) == 0 ? 4 : 3, o), about(0, 2, o)};
            case "drillAll":
                return new int[] {about(0, 1, o), about(0, upTo(5) == 0 ? 4 : 3, o)};
            case "split":
                return new int[] {about(0, 1, o), about(0, 11, o), about(1, 99, o), about(0, 7, o)};
            case "nearest":
                return new int[] {about(0, 1, o), degrees()};
            case "sheet":
                return new int[] {about(0, 3, o), about(0, 40, o)};
            case "lose":
            case "write":
                return new int[] {about(0, 3, o)};
            case "lay":
                return new int[] {about(0, 3, o), about(0, upTo(39), o), small(), upTo(2) == 0 ? 0 : about(0, 62, o)};
            case "get":
                return new int[] {about(0, 3, o), about(0, upTo(39), o)};
            case "copy":
                return new int[] {about(0, 3, o), about(0, 20, o), about(0, 3, o), about(0, 20, o), about(0, 12, o)};
            case "count":
                return new int[] {about(0, 8, o)};
            default:
                return new int[0];
        }
    }

    private int bits(boolean isRough) {
        switch (upTo(5)) {
            case 0:
                return about(0, 4095, isRough);
            case 1:
                return 1 << upTo(11) | 1 << upTo(11) | 1 << upTo(11);
            case 2:
                return 4095;
            default:
                return 4095 & ~(upTo(4095) & upTo(4095));
        }
    }

    private int degrees() {
        switch (upTo(3)) {
            case 0:
                return between(-6000, 6000);
            case 1:
                return 120 * between(-100, 100) + between(-1, 1);
            case 2:
                return (upTo(1) * 2 - 1) * (1 << between(22, 30)) + between(-9, 9);
            default:
                return upTo(1) == 0 ? Integer.MIN_VALUE + upTo(300) : Integer.MAX_VALUE - upTo(300);
        }
    }

    private long ofClass(String name, int[] v) {
        switch (name) {
            case "put": return x.put(v[0], v[1], v[2], v[3], v[4], v[5]);
            case "read": return x.read(v[0], v[1], v[2]);
            case "reckon": return x.reckon(v[0], v[1], v[2], v[3]);
            case "part": return x.part(v[0], v[1]);
            case "compare": return x.compare(v[0], v[1]);
            case "lump": return x.lump(v[0], v[1], v[2]);
            case "unlump": return x.unlump();
            case "drill": return x.drill(v[0], v[1], v[2]);
            case "fill": return x.fill(v[0], v[1]);
            case "hole": return x.hole(v[0], v[1]);
            case "lawful": return x.lawful(v[0], v[1]);
            case "sizes": return x.sizes(v[0]);
            case "limit": return x.limit(v[0]);
            case "pull": return x.pull(v[0], v[1]);
            case "quiet": return x.quiet(v[0]);
            case "bearing": return x.bearing(v[0], v[1], v[2], v[3]);
            case "trial": return x.trial(v[0], v[1], v[2]);
            case "reading": return x.reading(v[0], v[1], v[2]);
            case "found": return x.found(v[0], v[1]);
            case "effect": return x.effect(v[0], v[1], v[2]);
            case "fewest": return x.fewest(v[0], v[1], v[2]);
            case "drillAll": return x.drillAll(v[0], v[1]);
            case "split": return x.split(v[0], v[1], v[2], v[3]);
            case "nearest": return x.nearest(v[0], v[1]);
            case "sheet": return x.sheet(v[0], v[1]);
            case "lose": return x.lose(v[0]);
            case "lay": return x.lay(v[0], v[1], v[2], v[3]);
            case "get": return x.get(v[0], v[1]);
            case "copy": return x.copy(v[0], v[1], v[2], v[3], v[4]);
            case "write": return x.write(v[0]);
            case "count": return x.count(v[0]);
            default: return x.digest();
        }
    }

    private long ofModel(String name, int[] v) {
        switch (name) {
            case "put": return m.put(v[0], v[1], v[2], v[3], v[4], v[5]);
            case "read": return m.read(v[0], v[1], v[2]);
            case "reckon": return m.reckon(v[0], v[1], v[2], v[3]);
            case "part": return m.part(v[0], v[1]);
            case "compare": return m.compare(v[0], v[1]);
            case "lump": return m.lump(v[0], v[1], v[2]);
            case "unlump": return m.unlump();
            case "drill": return m.drill(v[0], v[1], v[2]);
            case "fill": return m.fill(v[0], v[1]);
            case "hole": return m.hole(v[0], v[1]);
            case "lawful": return m.lawful(v[0], v[1]);
            case "sizes": return m.sizes(v[0]);
            case "limit": return m.limit(v[0]);
            case "pull": return m.pull(v[0], v[1]);
            case "quiet": return m.quiet(v[0]);
            case "bearing": return m.bearing(v[0], v[1], v[2], v[3]);
            case "trial": return m.trial(v[0], v[1], v[2]);
            case "reading": return m.reading(v[0], v[1], v[2]);
            case "found": return m.found(v[0], v[1]);
            case "effect": return m.effect(v[0], v[1], v[2]);
            case "fewest": return m.fewest(v[0], v[1], v[2]);
            case "drillAll": return m.drillAll(v[0], v[1]);
            case "split": return m.split(v[0], v[1], v[2], v[3]);
            case "nearest": return m.nearest(v[0], v[1]);
            case "sheet": return m.sheet(v[0], v[1]);
            case "lose": return m.lose(v[0]);
            case "lay": return m.lay(v[0], v[1], v[2], v[3]);
            case "get": return m.get(v[0], v[1]);
            case "copy": return m.copy(v[0], v[1], v[2], v[3], v[4]);
            case "write": return m.write(v[0]);
            case "count": return m.count(v[0]);
            default: return m.digest();
        }
    }
}
