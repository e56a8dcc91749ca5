/** Edges of promises 7 to 16; above each test stand the promise and the sentence that it holds to. */
public final class RotorEdgesTest {
    private static final int[] NO_ANGLES = {-1, 12, Edges.LEAST, Edges.MOST};
    private static final int[] NO_PLANES = {-1, 2, Edges.LEAST, Edges.MOST};

    public static void main(String[] args) {
        lumpBad();
        lumpEnds();
        lumpNumbers();
        lumpFull();
        lumpFullAndFree();
        unlumpNone();
        unlumpLast();
        drillBad();
        drillNotLawful();
        drillHasOne();
        drillEnds();
        drillEverywhere();
        fillBad();
        fillNone();
        fillEnds();
        holeBad();
        holeNone();
        lawfulBad();
        lawfulEnds();
        lawfulHolesStay();
        sizesBad();
        sizesEnds();
        limitBad();
        limitEnds();
        pullBad();
        pullOfNothing();
        pullAngles();
        pullPlaces();
        pullLargest();
        pullInLowestTerms();
        quietBad();
        quietAtLimit();
        quietByLittle();
        quietLimitNought();
        quietLimitMost();
        Check.end();
    }

    // Promise 7: "BAD" (Terms: "a MOMENT (1 to 99), an ANGLE, a PLACE (0 to 10)").
    private static void lumpBad() {
        for (int bad : new int[] {0, 100, -1, Edges.LEAST, Edges.MOST}) {
            Edges.refused("lump: MOMENT " + bad, Check.BAD, x -> x.lump(bad, 0, 0));
        }
        for (int bad : NO_ANGLES) {
            Edges.refused("lump: ANGLE " + bad, Check.BAD, x -> x.lump(1, bad, 0));
        }
        for (int bad : new int[] {-1, 11, Edges.LEAST, Edges.MOST}) {
            Edges.refused("lump: PLACE " + bad, Check.BAD, x -> x.lump(1, 0, bad));
        }
    }

    // Promise 7: "A LUMP more", of the least and the most that are told.
    private static void lumpEnds() {
        RotorBalancer x = new RotorBalancer();
        Check.due("least", x.lump(1, 0, 0), 0);
        Check.duePull("least", x, 0, 1, 0, 0, 0, 1);
        Check.duePull("least", x, 1, 0, 0, 0, 0, 1);
        Check.due("most", x.lump(99, 11, 10), 1);
        Check.duePull("most", x, 0, 1, 0, 0, 0, 1);
        Check.duePull("most", x, 1, 0, 99, -99, 0, 2);
    }

    // Promise 7: "its number" (Terms: "LUMPS, 8 at most, 0 on").
    private static void lumpNumbers() {
        RotorBalancer x = new RotorBalancer();
        for (int i = 0; i < 8; i++) {
            Check.due("number", x.lump(1, i, i), i);
            Check.due("how many", x.count(0), i + 1);
        }
    }

    // Promise 7: "BAD; FULL": the ninth; what is BAD is so first.
    private static void lumpFull() {
        Edges.refused("the ninth", RotorEdgesTest::full, Check.FULL, x -> x.lump(1, 0, 0));
        Edges.refused("the ninth", RotorEdgesTest::full, Check.FULL, x -> x.lump(99, 11, 10));
        Edges.refused("BAD before FULL", RotorEdgesTest::full, Check.BAD, x -> x.lump(100, 0, 0));
        Edges.refused("BAD before FULL", RotorEdgesTest::full, Check.BAD, x -> x.lump(1, 12, 0));
        Edges.refused("BAD before FULL", RotorEdgesTest::full, Check.BAD, x -> x.lump(1, 0, 11));
    }

    private static RotorBalancer full() {
        RotorBalancer x = new RotorBalancer();
        for (int i = 0; i < 8; i++) {
            x.lump(90 + i, i, i);
        }
        x.trial(0, 0, 0);
        return x;
    }

    // Promise 7: "FULL" no more, once the last is gone.
    private static void lumpFullAndFree() {
        RotorBalancer x = full();
        Check.due("one is gone", x.unlump(), 7);
        Check.due("another", x.lump(5, 5, 5), 7);
        Check.due("full again", x.lump(5, 5, 5), Check.FULL);
    }

    // Promise 8: "NOT: there is none."
    private static void unlumpNone() {
        Edges.refused("none", () -> {
            RotorBalancer x = Edges.busy();
            x.unlump();
            x.unlump();
            x.trial(0, 0, 0);
            return x;
        }, Check.NOT, RotorBalancer::unlump);
    }

    // Promise 8: "The last LUMP is gone: how many are left": down to none.
    private static void unlumpLast() {
        RotorBalancer x = new RotorBalancer();
        x.lump(3, 0, 10);
        x.lump(4, 3, 10);
        x.lump(5, 0, 0);
        Check.due("two", x.unlump(), 2);
        Check.duePull("the third is gone", x, 0, 0, 0, 0, 0, 1);
        Check.duePull("the third is gone", x, 1, 3, 0, 4, 0, 1);
        Check.due("one", x.unlump(), 1);
        Check.duePull("the second is gone", x, 1, 3, 0, 0, 0, 1);
        Check.due("none", x.unlump(), 0);
        Check.duePull("the first is gone", x, 1, 0, 0, 0, 0, 1);
        Check.due("count", x.count(0), 0);
        Check.due("there is none", x.unlump(), Check.NOT);
        Check.due("the first again", x.lump(1, 1, 1), 0);
    }

    // Promise 9: "BAD" (Terms: "in PLANE 0 or 1, at an ANGLE, of a SIZE (1 to 9)"), before "NOT".
    private static void drillBad() {
        for (int bad : NO_PLANES) {
            Edges.refused("drill: PLANE " + bad, Check.BAD, x -> x.drill(bad, 0, 1));
        }
        for (int bad : NO_ANGLES) {
            Edges.refused("drill: ANGLE " + bad, Check.BAD, x -> x.drill(0, bad, 1));
        }
        for (int bad : new int[] {0, 10, -1, Edges.LEAST, Edges.MOST}) {
            Edges.refused("drill: SIZE " + bad, Check.BAD, x -> x.drill(0, 0, bad));
            Edges.refused("drill: SIZE, has one", Check.BAD, x -> x.drill(0, 2, bad));
            Edges.refused("drill: SIZE, not LAWFUL", Check.BAD, x -> x.drill(0, 1, bad));
        }
    }

    // Promise 9: "NOT: the ANGLE is not LAWFUL".
    private static void drillNotLawful() {
        Edges.refused("not LAWFUL", Check.NOT, x -> x.drill(0, 1, 1));
        Edges.refused("not LAWFUL", Check.NOT, x -> x.drill(0, 5, 9));
        Edges.refused("not LAWFUL in PLANE 1", Check.NOT, x -> x.drill(1, 11, 1));
        Check.due("LAWFUL in PLANE 0", Edges.busy().drill(0, 11, 1), 2);
        for (int i = 0; i < 24; i++) {
            RotorBalancer x = new RotorBalancer();
            x.lawful(i / 12, 4095 - (1 << i % 12));
            Check.due("all but this", x.drill(i / 12, i % 12, 1), Check.NOT);
            x.lawful(i / 12, 1 << i % 12);
            Check.due("this alone", x.drill(i / 12, i % 12, 1), 1);
        }
    }

    // Promise 9: "or has one".
    private static void drillHasOne() {
        Edges.refused("has one", Check.NOT, x -> x.drill(0, 2, 3));
        Edges.refused("has one, of another SIZE", Check.NOT, x -> x.drill(0, 2, 4));
        Edges.refused("has one", Check.NOT, x -> x.drill(1, 9, 9));
        Check.due("not in the other PLANE", new RotorBalancer().drill(1, 2, 3), 1);
        RotorBalancer x = Edges.busy();
        x.fill(0, 2);
        Check.due("filled", x.drill(0, 2, 9), 1);
    }

    // Promise 9: "A HOLE in a PLANE", of the least and the most that are told.
    private static void drillEnds() {
        RotorBalancer x = new RotorBalancer();
        Check.due("least", x.drill(0, 0, 1), 1);
        Check.due("most", x.drill(1, 11, 9), 1);
        Check.due("least", x.hole(0, 0), 1);
        Check.due("most", x.hole(1, 11), 9);
    }

    // Promise 9: "how many HOLES it has": from 1 to all ANGLES.
    private static void drillEverywhere() {
        RotorBalancer x = new RotorBalancer();
        for (int k = 11; k >= 0; k--) {
            Check.due("how many", x.drill(1, k, 1 + k % 9), 12 - k);
        }
        for (int k = 0; k < 12; k++) {
            Check.due("no room", x.drill(1, k, 1), Check.NOT);
            Check.due("as it was", x.hole(1, k), 1 + k % 9);
        }
        Check.due("the other PLANE", x.drill(0, 0, 1), 1);
    }

    // Promise 10: "BAD".
    private static void fillBad() {
        for (int bad : NO_PLANES) {
            Edges.refused("fill: PLANE " + bad, Check.BAD, x -> x.fill(bad, 2));
        }
        for (int bad : NO_ANGLES) {
            Edges.refused("fill: ANGLE " + bad, Check.BAD, x -> x.fill(0, bad));
        }
    }

    // Promise 10: "NOT: there is none."
    private static void fillNone() {
        Edges.refused("none", Check.NOT, x -> x.fill(0, 0));
        Edges.refused("in the other PLANE alone", Check.NOT, x -> x.fill(0, 9));
        Edges.refused("in the other PLANE alone", Check.NOT, x -> x.fill(1, 2));
        RotorBalancer x = Edges.busy();
        x.fill(0, 2);
        Check.due("gone", x.fill(0, 2), Check.NOT);
    }

    // Promise 10: "The HOLE at an ANGLE of a PLANE is filled: its SIZE": at the ends, and where it is not LAWFUL.
    private static void fillEnds() {
        RotorBalancer x = new RotorBalancer();
        x.drill(0, 0, 9);
        x.drill(1, 11, 1);
        x.lawful(1, 0);
        Check.due("the first", x.fill(0, 0), 9);
        Check.due("the last, not LAWFUL", x.fill(1, 11), 1);
        for (int plane = 0; plane < 2; plane++) {
            Check.due("none left", x.count(1 + plane), 0);
            Check.duePull("none left", x, plane, 0, 0, 0, 0, 1);
        }
        Check.due("none", x.hole(0, 0), 0);
        Check.due("none", x.hole(1, 11), 0);
    }

    // Promise 11: "BAD."
    private static void holeBad() {
        for (int bad : NO_PLANES) {
            Edges.refused("hole: PLANE " + bad, Check.BAD, x -> x.hole(bad, 2));
        }
        for (int bad : NO_ANGLES) {
            Edges.refused("hole: ANGLE " + bad, Check.BAD, x -> x.hole(0, bad));
        }
    }

    // Promise 11: "SIZE of the HOLE .. 0: none."
    private static void holeNone() {
        for (int i = 0; i < 24; i++) {
            RotorBalancer x = new RotorBalancer();
            x.drill(i / 12, i % 12, 1 + i % 9);
            for (int j = 0; j < 24; j++) {
                Check.due("hole", x.hole(j / 12, j % 12), i == j ? 1 + i % 9 : 0);
            }
        }
    }

    // Promise 12: "BAD".
    private static void lawfulBad() {
        for (int bad : NO_PLANES) {
            Edges.refused("lawful: PLANE " + bad, Check.BAD, x -> x.lawful(bad, 1));
        }
        for (int bad : new int[] {-1, 4096, 4097, 8191, Edges.LEAST, Edges.MOST}) {
            Edges.refused("lawful: bits " + bad, Check.BAD, x -> x.lawful(0, bad));
        }
    }

    // Promise 12: "LAWFUL ANGLES of a PLANE, as bits: what they were": none, one, all.
    private static void lawfulEnds() {
        for (int plane = 0; plane < 2; plane++) {
            RotorBalancer x = new RotorBalancer();
            int before = 4095;
            for (int bits : new int[] {0, 1, 2048, 4095, 2730}) {
                Check.due("what they were", x.lawful(plane, bits), before);
                before = bits;
            }
            Check.due("the other PLANE", x.lawful(1 - plane, 0), 4095);
            x.lawful(plane, 0);
            for (int k = 0; k < 12; k++) {
                Check.due("none", x.drill(plane, k, 1), Check.NOT);
            }
        }
    }

    // Promise 12: "(HOLES stay)".
    private static void lawfulHolesStay() {
        RotorBalancer x = Edges.busy();
        x.lawful(0, 0);
        x.lawful(1, 4095 - 512);
        Check.due("stays", x.hole(0, 2), 3);
        Check.due("stays", x.hole(1, 9), 1);
        Check.due("count", x.count(1) + x.count(2), 2);
        Check.due("TRIALS stay", x.count(3), 3);
    }

    // Promise 13: "BAD": "bits 1 to 9 (bit 0 is no SIZE), 1 to 3 of them".
    private static void sizesBad() {
        int[] bad = {
            0, 1, 1 | 2, 1 | 512, 1024, 1024 | 2, 1 << 30, Edges.LEAST, Edges.LEAST | 2, -2, Edges.MOST,
            2 | 4 | 8 | 16, 1022, 64 | 128 | 256 | 512
        };
        for (int bits : bad) {
            Edges.refused("sizes: " + bits, Check.BAD, x -> x.sizes(bits));
        }
    }

    // Promise 13: "SIZES .. what they were": each one alone, three of them.
    private static void sizesEnds() {
        RotorBalancer x = new RotorBalancer();
        int before = 22;
        for (int size = 1; size <= 9; size++) {
            Check.due("what they were", x.sizes(1 << size), before);
            before = 1 << size;
        }
        Check.due("two", x.sizes(2 | 512), 512);
        Check.due("the last three", x.sizes(128 | 256 | 512), 2 | 512);
        Check.due("the first three", x.sizes(2 | 4 | 8), 128 | 256 | 512);
        Check.due("count", x.count(7), 14);
    }

    // Promise 14: "BAD" (Terms: "LIMIT 0 to 99").
    private static void limitBad() {
        for (int bad : new int[] {-1, 100, Edges.LEAST, Edges.MOST}) {
            Edges.refused("limit: " + bad, Check.BAD, x -> x.limit(bad));
        }
    }

    // Promise 14: "LIMIT: what it was": 0, 99.
    private static void limitEnds() {
        RotorBalancer x = new RotorBalancer();
        Check.due("at first", x.limit(0), 1);
        Check.due("least", x.limit(99), 0);
        Check.due("most", x.limit(0), 99);
        Check.due("count", x.count(6), 0);
    }

    // Promise 15: "(part = 0 to 4), its SQUARE (5 to 9). BAD."
    private static void pullBad() {
        for (int bad : NO_PLANES) {
            Edges.refusedAsLong("pull: PLANE " + bad, Check.BAD, x -> x.pull(bad, 0));
        }
        for (int bad : new int[] {-1, 10, Edges.LEAST, Edges.MOST}) {
            Edges.refusedAsLong("pull: part " + bad, Check.BAD, x -> x.pull(0, bad));
        }
        Check.due("the least long and 2 more", new RotorBalancer().pull(0, 10), Long.MIN_VALUE + 2);
    }

    // Promise 15: "PULL of a PLANE", of no LUMPS and no HOLES: 0 by 1.
    private static void pullOfNothing() {
        for (int plane = 0; plane < 2; plane++) {
            Check.duePull("nothing", new RotorBalancer(), plane, 0, 0, 0, 0, 1, 0, 0, 0, 0, 1);
        }
    }

    // Promise 15 with Terms: "from 6 on those of ANGLE k less 6 with all signs changed, each by 2", for 0 to 11.
    private static void pullAngles() {
        for (int k = 0; k < 12; k++) {
            RotorBalancer x = new RotorBalancer();
            x.lump(3, k, 0);
            x.drill(1, k, 3);
            int by = k % 3 == 0 ? 2 : 1;
            for (int i = 0; i < 4; i++) {
                Check.due("LUMP at " + k, x.pull(0, i), 3 * Check.WAYS[k][i] / by);
                Check.due("HOLE at " + k, x.pull(1, i), -3 * Check.WAYS[k][i] / by);
            }
            Check.due("by", x.pull(0, 4), 2 / by);
            Check.due("SQUARE", x.pull(0, 5), 9);
            Check.due("SQUARE by", x.pull(1, 9), 1);
        }
    }

    // Promise 15 with Terms: "PLACE (of PLANE 0: 10 less PLACE) by 10": 0 to 10.
    private static void pullPlaces() {
        for (int place = 0; place <= 10; place++) {
            RotorBalancer x = new RotorBalancer();
            x.lump(10, 0, place);
            Check.due("of PLANE 0", x.pull(0, 0), 10 - place);
            Check.due("of PLANE 1", x.pull(1, 0), place);
        }
    }

    // Promise 15: the largest PULL that there can be, and its SQUARE.
    private static void pullLargest() {
        RotorBalancer x = new RotorBalancer();
        for (int i = 0; i < 8; i++) {
            x.lump(99, 11, 10);
        }
        for (int k = 3; k < 8; k++) {
            x.drill(1, k, 9);
        }
        Check.duePull("most", x, 1, 27, 810, -810, -9, 2, 656343, 14580, 0, 0, 1);
        x = new RotorBalancer();
        for (int i = 0; i < 8; i++) {
            x.lump(99, 0, 0);
        }
        Check.duePull("792", x, 0, 792, 0, 0, 0, 1, 627264, 0, 0, 0, 1);
    }

    // Promise 15: PULL and SQUARE are NUMBERS, so in lowest terms, each by itself.
    private static void pullInLowestTerms() {
        RotorBalancer x = new RotorBalancer();
        x.lump(1, 1, 1);
        Check.duePull("by 20", x, 1, 0, 1, 1, 0, 20, 1, 0, 0, 0, 100);
        x.lump(1, 1, 1);
        Check.duePull("by 10", x, 1, 0, 1, 1, 0, 10, 1, 0, 0, 0, 25);
        x.lump(8, 1, 1);
        Check.duePull("by 2", x, 1, 0, 1, 1, 0, 2, 1, 0, 0, 0, 1);
        x.lump(10, 1, 1);
        Check.duePull("by 1", x, 1, 0, 1, 1, 0, 1, 4, 0, 0, 0, 1);
    }

    // Promise 16: "BAD."
    private static void quietBad() {
        for (int bad : NO_PLANES) {
            Edges.refused("quiet: PLANE " + bad, Check.BAD, x -> x.quiet(bad));
        }
    }

    // Promise 16 with Terms: "if SQUARE of its PULL is no more than LIMIT times LIMIT": like it, or 1 beside it.
    private static void quietAtLimit() {
        for (int v = 1; v < 100; v++) {
            RotorBalancer x = Check.withLumps(v, 22, v, v % 12);
            Check.due("like LIMIT", x.quiet(1), 1);
            x.limit(v - 1);
            Check.due("1 above LIMIT", x.quiet(1), 0);
            x = Check.withLumps(v, 22, v, v % 12);
            x.lump(1, v % 12, 1);
            Check.due("a tenth above LIMIT", x.quiet(1), 0);
            Check.due("PLANE 0", x.quiet(0), 1);
        }
    }

    // Promise 16 with Terms: set "against each other without rounding": roots that are above or below by little.
    private static void quietByLittle() {
        Check.due("above 41 41 by 0.0002", Check.withLumps(41, 22, 82, 0, 71, 5).quiet(1), 0);
        Check.due("above 15 15 by 0.0004", Check.withLumps(15, 22, 30, 11, 26, 4).quiet(1), 0);
        Check.due("below 83 83 by 0.008", Check.withLumps(83, 22, 66, 0, 19, 1).quiet(1), 1);
        Check.due("below 37 37 by 0.03", Check.withLumps(37, 22, 28, 6, 10, 7).quiet(1), 1);
    }

    // Promise 16: LIMIT 0: QUIET, if nothing pulls.
    private static void quietLimitNought() {
        Check.due("nothing", Check.withLumps(0, 22).quiet(1), 1);
        Check.due("all of it taken", Check.withLumps(0, 22, 5, 3, 5, 9).quiet(1), 1);
        RotorBalancer x = Check.withLumps(0, 22);
        x.lump(1, 0, 1);
        Check.due("a tenth", x.quiet(1), 0);
        x.lump(1, 6, 1);
        Check.due("none", x.quiet(1), 1);
        Check.due("none", x.quiet(0), 1);
    }

    // Promise 16: LIMIT 99.
    private static void quietLimitMost() {
        Check.due("99", Check.withLumps(99, 22, 99, 7).quiet(1), 1);
        RotorBalancer x = Check.withLumps(99, 22, 99, 7);
        x.lump(1, 7, 1);
        Check.due("99 and a tenth", x.quiet(1), 0);
        x = Check.withLumps(99, 22, 99, 7, 99, 8, 99, 9, 99, 6, 99, 5, 99, 4, 99, 10, 99, 3);
        Check.due("all that can be", x.quiet(1), 0);
    }
}
