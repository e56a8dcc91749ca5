/** Edges of promises 22 to 25; above each test stand the promise and the sentence that it holds to. */
public final class HolesEdgesTest {
    private static final int[] NO_PLANES = {-1, 2, Edges.LEAST, Edges.MOST};

    public static void main(String[] args) {
        fewestBad();
        fewestNone();
        fewestNoHoles();
        fewestAtMost();
        fewestSquareAtLimit();
        fewestLeastSquare();
        fewestLesserAngle();
        fewestOneByOne();
        fewestLesserSize();
        fewestFreeAngles();
        fewestFirstAndLastAngle();
        fewestFigures();
        drillAllBad();
        drillAllNot();
        drillAllNone();
        drillAllAll();
        splitBad();
        splitNot();
        splitNoneLawful();
        splitSixTogether();
        splitLawful();
        splitRound();
        splitSpans();
        splitMoments();
        nearestBad();
        nearestNone();
        nearestHalfWay();
        nearestRound();
        nearestBelowNought();
        nearestEighths();
        nearestEnds();
        nearestRounded();
        Check.end();
    }

    // Promise 22: "BAD": PLANES 0, 1, "N (0 to 4)", what 0 to 2.
    private static void fewestBad() {
        for (int bad : NO_PLANES) {
            Edges.refused("fewest: PLANE " + bad, Check.BAD, x -> x.fewest(bad, 2, 0));
        }
        for (int bad : new int[] {-1, 5, Edges.LEAST, Edges.MOST}) {
            Edges.refused("fewest: N " + bad, Check.BAD, x -> x.fewest(0, bad, 0));
        }
        for (int bad : new int[] {-1, 3, Edges.LEAST, Edges.MOST}) {
            Edges.refused("fewest: what " + bad, Check.BAD, x -> x.fewest(0, 2, bad));
        }
    }

    // Promise 22: "(what = 0; NONE: no set), ANGLES .. (1; 0), their SIZES .. (2; 0)": 0 and 0, if there is no set.
    private static void fewestNone() {
        Check.dueFewest("too far for four", Check.withLumps(0, 512, 37, 0), 4, Check.NONE, 0, 0);
        Check.dueFewest("none are allowed", Check.withLumps(1, 22, 2, 0), 0, Check.NONE, 0, 0);
        RotorBalancer x = Check.withLumps(1, 22, 2, 0);
        x.lawful(1, 0);
        Check.dueFewest("none is LAWFUL", x, 4, Check.NONE, 0, 0);
        RotorBalancer full = Check.withLumps(0, 22, 90, 0);
        for (int k = 0; k < 12; k++) {
            full.drill(1, k, 9);
        }
        Check.dueFewest("all have one", full, 4, Check.NONE, 0, 0);
    }

    // Promise 22: no HOLES, if it is QUIET as it is: 0, no bits, no figures, whatever N.
    private static void fewestNoHoles() {
        for (int n = 0; n <= 4; n++) {
            Check.dueFewest("QUIET", Check.withLumps(3, 22, 3, 7), n, 0, 0, 0);
            Check.dueFewest("QUIET, none LAWFUL", Check.withLumps(0, 22), n, 0, 0, 0);
        }
    }

    // Promise 22 with Terms: "Sets of HOLES, N at most": as many, and one too few.
    private static void fewestAtMost() {
        for (int many = 1; many <= 4; many++) {
            RotorBalancer x = new RotorBalancer();
            x.limit(0);
            x.sizes(512);
            int bits = 0;
            int figures = 0;
            for (int i = 0; i < many; i++) {
                x.lump(9, i, 10);
                bits |= 1 << i;
                figures = 10 * figures + 9;
            }
            x.lawful(1, bits);
            Check.dueFewest(many + " are as many", x, many, many, bits, figures);
            Check.dueFewest("more are allowed", x, 4, many, bits, figures);
            Check.dueFewest("one too few", x, many - 1, Check.NONE, 0, 0);
        }
    }

    // Promise 22 with Terms: "with which it would be QUIET": at LIMIT, not above it by little.
    private static void fewestSquareAtLimit() {
        RotorBalancer x = Check.withLumps(5, 16, 9, 0);
        x.lawful(1, 1);
        Check.dueFewest("5 is left", x, 1, 1, 1, 4);
        x.limit(4);
        Check.dueFewest("5 is above", x, 1, Check.NONE, 0, 0);
        x = Check.withLumps(41, 2, 83, 0, 71, 5);
        x.lawful(1, 1);
        Check.dueFewest("above by 0.0002", x, 1, Check.NONE, 0, 0);
        x = Check.withLumps(41, 4, 83, 0, 71, 5);
        x.lawful(1, 1);
        Check.dueFewest("below", x, 1, 1, 1, 2);
    }

    // Promise 22 with Terms: "those with fewest HOLES; of these the one with the least SQUARE".
    private static void fewestLeastSquare() {
        Check.dueFewest("one that leaves 3, though two leave less", Check.withLumps(3, 8 | 32, 8, 4), 4, 1, 16, 5);
        Check.dueFewest("one leaves more than 2", Check.withLumps(2, 8 | 32, 8, 4), 4, 2, 8 | 32, 55);
        Check.dueFewest("of 1, 2, 4 all would do", Check.withLumps(9, 22, 10, 4), 4, 1, 16, 4);
        Check.dueFewest("too large leaves more", Check.withLumps(4, 22, 5, 4), 4, 1, 16, 4);
        Check.dueFewest("2 at 4 leaves less than 4", Check.withLumps(2, 22, 3, 4), 4, 1, 16, 2);
    }

    // Promise 22 with Terms: "of like ones the first: .. the lesser ANGLE first".
    private static void fewestLesserAngle() {
        for (int k = 1; k < 11; k++) {
            RotorBalancer x = Check.withLumps(2, 4, 3, k);
            x.lawful(1, 4095 - (1 << k));
            Check.dueFewest("before and behind " + k, x, 4, 1, 1 << k - 1, 2);
        }
        RotorBalancer x = Check.withLumps(2, 4, 3, 0);
        x.lawful(1, 2 | 2048);
        Check.dueFewest("1 and 11", x, 4, 1, 2, 2);
        x = Check.withLumps(2, 4, 3, 11);
        x.lawful(1, 1 | 1024);
        Check.dueFewest("0 and 10", x, 4, 1, 1, 2);
    }

    // Promise 22 with Terms: "HOLES by ANGLES, set against each other one by one": of sets with like SQUARES.
    private static void fewestOneByOne() {
        RotorBalancer x = Check.withLumps(1, 2 | 4 | 32, 2, 1);
        x.lawful(1, 4 | 128 | 1024 | 2048);
        Check.dueFewest("2 at 2, and 1 at 10 or 11", x, 3, 2, 4 | 1024, 21);
        x = Check.withLumps(2, 2 | 16 | 32, 5, 11);
        x.lawful(1, 1 | 16 | 512 | 1024);
        Check.dueFewest("4 at 0, and 1 or 4 at 9", x, 3, 2, 1 | 512, 41);
        x = Check.withLumps(1, 2 | 4, 2, 9);
        x.lawful(1, 4 | 8 | 64 | 256 | 1024);
        Check.dueFewest("1 at 6 and 2 at 10, or 1 at 8 and 1 at 10", x, 3, 2, 64 | 1024, 12);
        x = Check.withLumps(1, 4 | 16, 4, 11);
        x.lawful(1, 1 | 16 | 64 | 256 | 1024);
        Check.dueFewest("2 at 0 and 2 at 10, or 4 at 0 and 2 at 8", x, 3, 2, 1 | 1024, 22);
    }

    // Promise 22 with Terms: "of like ANGLES the lesser SIZE".
    private static void fewestLesserSize() {
        for (int size = 1; size <= 7; size++) {
            RotorBalancer x = Check.withLumps(1, 1 << size | 1 << size + 2, size + 1, 5);
            Check.dueFewest("1 too little, 1 too much", x, 4, 1, 32, size);
        }
        Check.dueFewest("2 too little, 2 too much, at 6", Check.withLumps(2, 4 | 64, 4, 6), 4, 1, 64, 2);
    }

    // Promise 22 with Terms: "at ANGLES that are LAWFUL and have none".
    private static void fewestFreeAngles() {
        for (int k = 0; k < 12; k++) {
            RotorBalancer x = Check.withLumps(0, 512, 9, k);
            Check.dueFewest("LAWFUL", x, 1, 1, 1 << k, 9);
            x.lawful(1, 4095 - (1 << k));
            Check.dueFewest("not LAWFUL", x, 1, Check.NONE, 0, 0);
            x.lawful(1, 4095);
            x.lump(1, k, 10);
            x.drill(1, k, 1);
            Check.dueFewest("has one", x, 1, Check.NONE, 0, 0);
            x.lawful(0, 0);
            x.fill(1, k);
            x.unlump();
            Check.dueFewest("filled; the other PLANE is no matter", x, 1, 1, 1 << k, 9);
        }
    }

    // Promise 22: "ANGLES of them as bits": 0 and 11 together.
    private static void fewestFirstAndLastAngle() {
        RotorBalancer x = Check.withLumps(0, 2 | 512, 9, 0, 1, 11);
        Check.dueFewest("0 and 11", x, 2, 2, 2049, 91);
        x = Check.withLumps(0, 2 | 512, 1, 0, 9, 11);
        Check.dueFewest("0 and 11", x, 2, 2, 2049, 19);
    }

    // Promise 22: "their SIZES, by ANGLES, as figures, the first the highest": one to four of them.
    private static void fewestFigures() {
        Check.dueFewest("one", Check.withLumps(0, 512, 9, 11), 4, 1, 2048, 9);
        Check.dueFewest("two", Check.withLumps(0, 8 | 512, 3, 1, 9, 2), 4, 2, 6, 39);
        Check.dueFewest("three", Check.withLumps(0, 8 | 64 | 512, 3, 11, 9, 0, 6, 1), 4, 3, 2051, 963);
        RotorBalancer x = Check.withLumps(0, 8 | 64 | 512, 3, 0, 9, 1, 6, 2, 9, 3);
        x.lawful(1, 15);
        Check.dueFewest("four", x, 4, 4, 15, 3969);
    }

    // Promise 23: "BAD", before "NOT".
    private static void drillAllBad() {
        for (int bad : NO_PLANES) {
            Edges.refused("drillAll: PLANE " + bad, Check.BAD, x -> x.drillAll(bad, 2));
        }
        for (int bad : new int[] {-1, 5, Edges.LEAST, Edges.MOST}) {
            Edges.refused("drillAll: N " + bad, Check.BAD, x -> x.drillAll(0, bad));
            Edges.refused("BAD before NOT", HolesEdgesTest::outOfReach, Check.BAD, x -> x.drillAll(1, bad));
        }
    }

    private static RotorBalancer outOfReach() {
        RotorBalancer x = Edges.busy();
        x.lump(99, 0, 10);
        x.trial(0, 0, 0);
        return x;
    }

    // Promise 23: "NOT: there is no such set."
    private static void drillAllNot() {
        for (int n = 0; n <= 4; n++) {
            int most = n;
            Edges.refused("no such set", HolesEdgesTest::outOfReach, Check.NOT, x -> x.drillAll(1, most));
        }
        Edges.refused("two would do", () -> Check.withLumps(0, 22, 1, 1, 4, 11), Check.NOT, x -> x.drillAll(1, 1));
        Edges.refused("one would do", () -> Check.withLumps(1, 22, 2, 1), Check.NOT, x -> x.drillAll(1, 0));
    }

    // Promise 23: "how many": 0, if it is QUIET as it is.
    private static void drillAllNone() {
        for (int n = 0; n <= 4; n++) {
            RotorBalancer x = Check.withLumps(3, 22, 3, 7);
            Check.due("none", x.drillAll(1, n), 0);
            Check.due("none", x.count(2), 0);
        }
    }

    // Promise 23: "FEWEST for a PLANE, with N at most, are drilled: how many": one to four.
    private static void drillAllAll() {
        for (int many = 1; many <= 4; many++) {
            RotorBalancer x = new RotorBalancer();
            x.limit(0);
            x.sizes(128 | 256 | 512);
            for (int i = 0; i < many; i++) {
                x.lump(7 + i % 3, i, 10);
            }
            x.lawful(1, (1 << many) - 1);
            Check.due("how many", x.drillAll(1, many), many);
            for (int k = 0; k < 12; k++) {
                Check.due("HOLE at " + k, x.hole(1, k), k < many ? 7 + k % 3 : 0);
                Check.due("none in the other PLANE", x.hole(0, k), 0);
            }
            Check.due("QUIET", x.quiet(1), 1);
            Check.due("none more", x.drillAll(1, 4), 0);
        }
    }

    // Promise 24: "BAD": PLANES 0, 1, an ANGLE, "a MOMENT (1 to 99)", what 0 to 7; before "NOT".
    private static void splitBad() {
        for (int bad : NO_PLANES) {
            Edges.refused("split: PLANE " + bad, Check.BAD, x -> x.split(bad, 0, 1, 0));
        }
        for (int bad : new int[] {-1, 12, Edges.LEAST, Edges.MOST}) {
            Edges.refused("split: ANGLE " + bad, Check.BAD, x -> x.split(0, bad, 1, 0));
        }
        for (int bad : new int[] {0, 100, -1, Edges.LEAST, Edges.MOST}) {
            Edges.refused("split: MOMENT " + bad, Check.BAD, x -> x.split(0, 0, bad, 0));
            Edges.refused("BAD before NOT", HolesEdgesTest::lawless, Check.BAD, x -> x.split(0, 0, bad, 0));
        }
        for (int bad : new int[] {-1, 8, Edges.LEAST, Edges.MOST}) {
            Edges.refused("split: what " + bad, Check.BAD, x -> x.split(0, 0, 1, bad));
            Edges.refused("BAD before NOT", HolesEdgesTest::lawless, Check.BAD, x -> x.split(0, 0, 1, bad));
        }
    }

    private static RotorBalancer lawless() {
        RotorBalancer x = Edges.busy();
        x.lawful(0, 0);
        return x;
    }

    private static RotorBalancer lawfulAt(int... angles) {
        RotorBalancer x = Edges.busy();
        int bits = 0;
        for (int k : angles) {
            bits |= 1 << k;
        }
        x.lawful(0, bits);
        return x;
    }

    private static void dueNot(String what, int angle, int... lawful) {
        for (int i = 0; i < 8; i++) {
            int part = i;
            Edges.refused(what, () -> lawfulAt(lawful), Check.NOT, x -> x.split(0, angle, 5, part));
        }
    }

    // Promise 24: "NOT: there is none."
    private static void splitNot() {
        dueNot("one LAWFUL behind it", 4, 3);
        dueNot("one LAWFUL ahead of it", 2, 3);
        dueNot("one LAWFUL, half round", 9, 3);
    }

    // Promise 24 with Terms: "There is none, if none is LAWFUL".
    private static void splitNoneLawful() {
        for (int k = 0; k < 12; k++) {
            Check.due("none LAWFUL", lawless().split(0, k, 1, 0), Check.NOT);
        }
        dueNot("none LAWFUL", 0);
        Check.due("PLANE 1 has some", lawless().split(1, 0, 1, 1), 1);
    }

    // Promise 24 with Terms: ".. or i and j together are 6 or more": 5 and 6, 7.
    private static void splitSixTogether() {
        for (int i = 1; i < 6; i++) {
            for (int j = 1; j + i < 9; j++) {
                int down = (12 - i) % 12;
                RotorBalancer x = lawfulAt(down, j);
                Check.due(i + " and " + j, x.split(0, 0, 1, 0), i + j < 6 ? down : Check.NOT);
                Check.due(i + " and " + j, x.split(0, 0, 1, 4), i + j < 6 ? j : Check.NOT);
            }
        }
        dueNot("3 and 3", 6, 3, 9);
        dueNot("1 and 5", 0, 11, 5);
        dueNot("5 and 1", 11, 6, 0);
    }

    // Promise 24 with Terms: "if k is LAWFUL, all of it there"; "UP (4; NONE: all is at DOWN) .. (5 to 7; 0, 0, 1)".
    private static void splitLawful() {
        for (int k = 0; k < 12; k++) {
            Check.dueSplit("LAWFUL alone", lawfulAt(k), k, 99, k, 99, 0, 1, Check.NONE, 0, 0, 1);
            Check.dueSplit("all LAWFUL", new RotorBalancer(), k, 1, k, 1, 0, 1, Check.NONE, 0, 0, 1);
        }
        RotorBalancer x = lawfulAt(3, 6);
        Check.dueSplit("not LAWFUL", x, 4, 9, 3, 0, 9, 2, 6, 9, 0, 2);
        Check.dueSplit("LAWFUL, behind that", x, 6, 9, 6, 9, 0, 1, Check.NONE, 0, 0, 1);
    }

    // Promise 24 with Terms: "going down from k (11 behind 0), UP going up; .. (0 behind 11)".
    private static void splitRound() {
        Check.dueSplit("down from 0 to 11", lawfulAt(11, 1), 0, 3, 11, 0, 1, 1, 1, 0, 1, 1);
        Check.dueSplit("up from 11 to 0", lawfulAt(10, 0), 11, 3, 10, 0, 1, 1, 0, 0, 1, 1);
        Check.dueSplit("down from 1 to 11", lawfulAt(11, 2), 1, 3, 11, 3, 0, 2, 2, 0, 3, 2);
        Check.dueSplit("up from 10 to 0", lawfulAt(9, 0), 10, 3, 9, 0, 3, 2, 0, 3, 0, 2);
        Check.dueSplit("down from 3 to 11, the nearest of more", lawfulAt(11, 8, 4, 5), 3, 3, 11, 3, 0, 1, 4, 0, 3, 1);
        Check.dueSplit("up from 8 to 0, the nearest of more", lawfulAt(7, 6, 0, 3), 8, 3, 7, 0, 3, 1, 0, 3, 0, 1);
    }

    // Promise 24 with Terms: "with S of 0 to 6: 0, 1, ROOT, 2, ROOT, 1, 0", in lowest terms.
    private static void splitSpans() {
        Check.dueSplit("1 and 1", lawfulAt(3, 5), 4, 1, 3, 0, 1, 3, 5, 0, 1, 3);
        Check.dueSplit("1 and 2", lawfulAt(3, 6), 4, 1, 3, 0, 1, 2, 6, 1, 0, 2);
        Check.dueSplit("2 and 1", lawfulAt(2, 5), 4, 1, 2, 1, 0, 2, 5, 0, 1, 2);
        Check.dueSplit("1 and 3", lawfulAt(3, 7), 4, 1, 3, 0, 2, 3, 7, 0, 1, 3);
        Check.dueSplit("2 and 2", lawfulAt(2, 6), 4, 1, 2, 1, 0, 1, 6, 1, 0, 1);
        Check.dueSplit("3 and 1", lawfulAt(1, 5), 4, 1, 1, 0, 1, 3, 5, 0, 2, 3);
        Check.dueSplit("1 and 4", lawfulAt(3, 8), 4, 1, 3, 0, 1, 1, 8, 1, 0, 1);
        Check.dueSplit("2 and 3", lawfulAt(2, 7), 4, 1, 2, 2, 0, 1, 7, 0, 1, 1);
        Check.dueSplit("3 and 2", lawfulAt(1, 6), 4, 1, 1, 0, 1, 1, 6, 2, 0, 1);
        Check.dueSplit("4 and 1", lawfulAt(0, 5), 4, 1, 0, 1, 0, 1, 5, 0, 1, 1);
    }

    // Promise 24: "a MOMENT (1 to 99)": the most, of which 3 and 2 may go.
    private static void splitMoments() {
        Check.dueSplit("99, 1 and 1", lawfulAt(3, 5), 4, 99, 3, 0, 33, 1, 5, 0, 33, 1);
        Check.dueSplit("98, 1 and 2", lawfulAt(3, 6), 4, 98, 3, 0, 49, 1, 6, 49, 0, 1);
        Check.dueSplit("99, 1 and 2", lawfulAt(3, 6), 4, 99, 3, 0, 99, 2, 6, 99, 0, 2);
        Check.dueSplit("99, 3 and 2", lawfulAt(1, 6), 4, 99, 1, 0, 99, 1, 6, 198, 0, 1);
    }

    // Promise 25: "BAD."
    private static void nearestBad() {
        for (int bad : NO_PLANES) {
            Edges.refused("nearest: PLANE " + bad, Check.BAD, x -> x.nearest(bad, 0));
        }
    }

    // Promise 25: "NONE: there is none."
    private static void nearestNone() {
        for (int v : new int[] {0, 1, -1, Edges.LEAST, Edges.MOST}) {
            Check.due("none LAWFUL", lawless().nearest(0, v), Check.NONE);
            Check.due("some in PLANE 1", lawless().nearest(1, v) >= 0 ? 1 : 0, 1);
        }
    }

    // Promise 25: "of like ones the least": half the way, and an eighth of a degree beside it.
    private static void nearestHalfWay() {
        RotorBalancer x = new RotorBalancer();
        for (int k = 0; k < 12; k++) {
            int half = 240 * k + 120;
            Check.due("before", x.nearest(0, half - 1), k);
            Check.due("half the way", x.nearest(0, half), k == 11 ? 0 : k);
            Check.due("behind", x.nearest(0, half + 1), (k + 1) % 12);
        }
        Check.due("0 and 6, 90 from both", lawfulAt(0, 6).nearest(0, 720), 0);
        Check.due("0 and 6, 90 from both", lawfulAt(0, 6).nearest(0, 2160), 0);
        Check.due("5 and 11, 90 from both", lawfulAt(5, 11).nearest(0, 8 * 60), 5);
        Check.due("5 and 11, 90 from both", lawfulAt(5, 11).nearest(0, 8 * 240), 5);
        Check.due("a bit nearer to 11", lawfulAt(5, 11).nearest(0, 8 * 240 + 1), 11);
    }

    // Promise 25: "the one way round or the other": "360 less that, the lesser".
    private static void nearestRound() {
        Check.due("359 is nearer to 0", lawfulAt(0, 10).nearest(0, 8 * 359), 0);
        Check.due("1 is nearer to 11", lawfulAt(11, 3).nearest(0, 8), 11);
        Check.due("half round", lawfulAt(0).nearest(0, 8 * 180), 0);
        Check.due("0 is 30 from 11, 60 from 2", lawfulAt(2, 11).nearest(0, 0), 11);
        Check.due("15 is 45 from 2 and from 11", lawfulAt(2, 11).nearest(0, 8 * 15), 2);
    }

    // Promise 25: "its remainder by 360 .. and 360 more, if that is below 0": at 0, 360 and -360 and beside them.
    private static void nearestBelowNought() {
        RotorBalancer x = lawfulAt(1, 11);
        for (int rounds = -3; rounds <= 3; rounds++) {
            int v = 2880 * rounds;
            Check.due("30 from both", x.nearest(0, v), 1);
            Check.due("a bit less", x.nearest(0, v - 1), 11);
            Check.due("a bit more", x.nearest(0, v + 1), 1);
        }
        Check.due("-90", new RotorBalancer().nearest(0, -720), 9);
        Check.due("-345, half the way", new RotorBalancer().nearest(0, -8 * 345), 0);
        Check.due("-345 and a bit more", new RotorBalancer().nearest(0, -8 * 345 + 1), 1);
    }

    // Promise 25: "to degrees v by 8": v is not whole degrees.
    private static void nearestEighths() {
        RotorBalancer x = lawfulAt(0, 3);
        Check.due("45 less an eighth", x.nearest(0, 359), 0);
        Check.due("45", x.nearest(0, 360), 0);
        Check.due("45 and an eighth", x.nearest(0, 361), 3);
        Check.due("225 less an eighth", x.nearest(0, 1799), 3);
        Check.due("225", x.nearest(0, 1800), 0);
    }

    // Promise 25: "v as a float": the ends of ints are 2 to the 31, 16 degrees from whole rounds.
    private static void nearestEnds() {
        RotorBalancer x = new RotorBalancer();
        Check.due("most", x.nearest(0, Edges.MOST), 1);
        Check.due("most less 63 comes to it", x.nearest(0, Edges.MOST - 63), 1);
        Check.due("most less 64 comes to whole rounds", x.nearest(0, Edges.MOST - 64), 0);
        Check.due("least", x.nearest(0, Edges.LEAST), 11);
        Check.due("least and 64 comes to it", x.nearest(0, Edges.LEAST + 64), 11);
        Check.due("least and 65 comes to whole rounds", x.nearest(0, Edges.LEAST + 65), 0);
    }

    // Promise 25: "v as a float": beyond 2 to the 24 it is rounded, to even ones if it is between two.
    private static void nearestRounded() {
        RotorBalancer x = lawfulAt(0, 1);
        int half = 2880 * 5826 + 120;
        Check.due("half the way", x.nearest(0, half), 0);
        Check.due("1 more is half the way, too", x.nearest(0, half + 1), 0);
        Check.due("2 more is not", x.nearest(0, half + 2), 1);
        int far = 2880 * 372827 + 120;
        for (int v = far - 40; v <= far + 40; v++) {
            Check.due("about half the way", x.nearest(0, v), (float) v <= (float) far ? 0 : 1);
        }
        Check.due("a whole number is beyond it", x.nearest(0, far + 40), 1);
    }
}
