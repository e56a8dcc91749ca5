/** Edges of promises 26 to 33; above each test stand the promise and the sentence that it holds to. */
public final class SheetsEdgesTest {
    private static final int[] NO_SHEETS = {-1, 4, Edges.LEAST, Edges.MOST};

    public static void main(String[] args) {
        sheetBad();
        sheetSize();
        sheetEnds();
        sheetNew();
        loseBad();
        loseNull();
        loseEnds();
        layBad();
        layNull();
        layIndex();
        layEnds();
        layWraps();
        getBad();
        getNull();
        getIndex();
        getEnds();
        copyBad();
        copyNull();
        copyBelow();
        copyNotSoMany();
        copyNone();
        copyAll();
        copyAsTheyWere();
        writeBad();
        writeNull();
        writeAsManyItems();
        writeAsManyNumbers();
        writeLongs();
        countBad();
        countLumpsAndHoles();
        countTrials();
        countQuiet();
        countLimitAndSizes();
        countNoFinding();
        countLatestFinding();
        countFindingAlone();
        digestNew();
        digestWraps();
        digestOfEachThing();
        digestTwoHoles();
        digestChangesNothing();
        Check.end();
    }

    // Promise 26: "BAD: SHEET, above 40", before "SIZE".
    private static void sheetBad() {
        for (int bad : NO_SHEETS) {
            Edges.refused("sheet: SHEET " + bad, Check.BAD, x -> x.sheet(bad, 1));
            Edges.refused("sheet: BAD before SIZE", Check.BAD, x -> x.sheet(bad, -1));
        }
        for (int bad : new int[] {41, 42, Edges.MOST}) {
            Edges.refused("sheet: above 40, LOST", Check.BAD, x -> x.sheet(3, bad));
            Edges.refused("sheet: above 40, not LOST", Check.BAD, x -> x.sheet(0, bad));
        }
    }

    // Promise 26: "SIZE" (Terms: "below 0").
    private static void sheetSize() {
        for (int bad : new int[] {-1, -2, -40, Edges.LEAST}) {
            Edges.refused("sheet: below 0, LOST", SheetsEdgesTest::found, Check.SIZE, x -> x.sheet(3, bad));
            Edges.refused("sheet: below 0, not LOST", SheetsEdgesTest::found, Check.SIZE, x -> x.sheet(0, bad));
        }
    }

    /** The latest FINDING is 2. */
    private static RotorBalancer found() {
        RotorBalancer x = Edges.busy();
        Check.due("INDEX", x.lay(1, 0, 0, 0), Check.INDEX);
        return x;
    }

    // Promise 26: "a new row of n longs: n": 0 and 40, of the first and the last SHEET.
    private static void sheetEnds() {
        RotorBalancer x = new RotorBalancer();
        Check.due("none", x.sheet(0, 0), 0);
        Check.due("none", x.lose(0), 0);
        Check.due("one", x.sheet(0, 1), 1);
        Check.due("40", x.sheet(3, 40), 40);
        for (int i = 0; i < 40; i++) {
            Check.due("0 at first", x.get(3, i), 0);
        }
        Check.due("no more", x.get(3, 40), Check.asLong(Check.INDEX));
        Check.due("one still", x.lose(0), 1);
        Check.due("40 still", x.lose(3), 40);
    }

    // Promise 26: "A SHEET is a new row" (Terms: "0 at first"): nothing is left of the one before, LOST or not.
    private static void sheetNew() {
        for (int n : new int[] {3, 5, 40}) {
            RotorBalancer x = Edges.busy();
            Check.due("anew", x.sheet(0, n), n);
            x.lose(2);
            Check.due("anew", x.sheet(2, n), n);
            for (int i = 0; i < n; i++) {
                Check.due("0 again", x.get(0, i), 0);
                Check.due("0 again", x.get(2, i), 0);
            }
            Check.due("no more", x.get(0, n), Check.asLong(Check.INDEX));
        }
        RotorBalancer x = Edges.busy();
        x.sheet(2, 1);
        x.sheet(2, 40);
        for (int i = 0; i < 40; i++) {
            Check.due("0 again", x.get(2, i), 0);
        }
    }

    // Promise 27: "BAD", before "NULL".
    private static void loseBad() {
        for (int bad : NO_SHEETS) {
            Edges.refused("lose: SHEET " + bad, Check.BAD, x -> x.lose(bad));
        }
    }

    // Promise 27: "NULL" (Terms: "the SHEET is LOST").
    private static void loseNull() {
        Edges.refused("lose: LOST", Check.NULL, x -> x.lose(3));
        RotorBalancer x = Edges.busy();
        x.lose(0);
        Check.due("lose: twice", x.lose(0), Check.NULL);
        Check.due("count", x.count(8), 1);
    }

    // Promise 27: "It is LOST: how many items it had": 0, 40.
    private static void loseEnds() {
        RotorBalancer x = Edges.busy();
        Check.due("0", x.lose(1), 0);
        Check.due("40", x.lose(2), 40);
        for (int s = 1; s < 4; s++) {
            Check.due("LOST", x.get(s, 0), Check.asLong(Check.NULL));
            Check.due("LOST", x.lay(s, 0, 1, 1), Check.NULL);
            Check.due("LOST", x.write(s), Check.NULL);
            Check.due("LOST", x.read(0, s, 0), Check.NULL);
        }
        Check.due("another is not", x.lose(0), 5);
    }

    // Promise 28: "BAD: SHEET, how often", before "NULL; INDEX".
    private static void layBad() {
        for (int bad : NO_SHEETS) {
            Edges.refused("lay: SHEET " + bad, Check.BAD, x -> x.lay(bad, 0, 1, 0));
        }
        for (int bad : new int[] {-1, 63, 64, Edges.LEAST, Edges.MOST}) {
            Edges.refused("lay: so often " + bad, Check.BAD, x -> x.lay(0, 0, 1, bad));
            Edges.refused("lay: BAD before NULL", Check.BAD, x -> x.lay(3, 0, 1, bad));
            Edges.refused("lay: BAD before INDEX", Check.BAD, x -> x.lay(0, 5, 1, bad));
        }
    }

    // Promise 28: "NULL", before "INDEX".
    private static void layNull() {
        Edges.refused("lay: LOST", Check.NULL, x -> x.lay(3, 0, 1, 0));
        Edges.refused("lay: NULL before INDEX", Check.NULL, x -> x.lay(3, -1, 1, 62));
        Edges.refused("lay: NULL before INDEX", Check.NULL, x -> x.lay(3, 40, 1, 0));
    }

    // Promise 28: "INDEX" (Terms: "there is no such item").
    private static void layIndex() {
        for (int bad : new int[] {-1, 5, 40, Edges.LEAST, Edges.MOST}) {
            Edges.refused("lay: item " + bad + " of 5", Check.INDEX, x -> x.lay(0, bad, 1, 0));
        }
        Edges.refused("lay: item 0 of none", Check.INDEX, x -> x.lay(1, 0, 1, 0));
        Edges.refused("lay: item 40 of 40", Check.INDEX, x -> x.lay(2, 40, 1, 0));
    }

    // Promise 28: "Item i becomes v times 2 so often (0 to 62)": the first and the last item, 0 and 62.
    private static void layEnds() {
        RotorBalancer x = Edges.busy();
        Check.due("lay", x.lay(2, 0, -7, 0), 1);
        Check.due("lay", x.lay(2, 39, 1, 62), 1);
        Check.due("lay", x.lay(2, 1, Edges.LEAST, 32), 1);
        Check.due("lay", x.lay(2, 38, Edges.MOST, 32), 1);
        Check.due("as it is", x.get(2, 0), -7);
        Check.due("62", x.get(2, 39), 4611686018427387904L);
        Check.due("to the least", x.get(2, 1), Long.MIN_VALUE);
        Check.due("just no wrap", x.get(2, 38), 9223372032559808512L);
        Check.due("no other", x.get(2, 2), 8 * 23);
        Check.due("0 stays 0", x.lay(2, 2, 0, 62), 1);
        Check.due("0 stays 0", x.get(2, 2), 0);
    }

    // Promise 28: "as longs that wrap".
    private static void layWraps() {
        RotorBalancer x = Edges.busy();
        for (int v = -9; v <= 9; v++) {
            for (int often = 58; often <= 62; often++) {
                long want = v;
                for (int i = 0; i < often; i++) {
                    want = want + want;
                }
                x.lay(0, 1, v, often);
                Check.due("wraps", x.get(0, 1), want);
            }
        }
        x.lay(0, 1, 3, 62);
        Check.due("3 times 2 to the 62", x.get(0, 1), -4611686018427387904L);
        x.lay(0, 1, 4, 62);
        Check.due("4 times 2 to the 62", x.get(0, 1), 0);
        x.lay(0, 1, Edges.MOST, 33);
        Check.due("the most, beyond by one", x.get(0, 1), -8589934592L);
        x.lay(0, 1, Edges.LEAST, 33);
        Check.due("the least, beyond by one", x.get(0, 1), 0);
    }

    // Promise 29: "BAD", before "NULL; INDEX".
    private static void getBad() {
        for (int bad : NO_SHEETS) {
            Edges.refusedAsLong("get: SHEET " + bad, Check.BAD, x -> x.get(bad, -1));
        }
        Check.due("the least long and 2 more", Edges.busy().get(4, 0), Long.MIN_VALUE + 2);
    }

    // Promise 29: "NULL", before "INDEX".
    private static void getNull() {
        Edges.refusedAsLong("get: LOST", Check.NULL, x -> x.get(3, 0));
        Edges.refusedAsLong("get: NULL before INDEX", Check.NULL, x -> x.get(3, -1));
        Check.due("the least long and 11 more", Edges.busy().get(3, 0), Long.MIN_VALUE + 11);
    }

    // Promise 29: "INDEX".
    private static void getIndex() {
        for (int bad : new int[] {-1, 5, 39, 40, Edges.LEAST, Edges.MOST}) {
            Edges.refusedAsLong("get: item " + bad + " of 5", Check.INDEX, x -> x.get(0, bad));
        }
        Edges.refusedAsLong("get: item 0 of none", Check.INDEX, x -> x.get(1, 0));
        Edges.refusedAsLong("get: item 40 of 40", Check.INDEX, x -> x.get(2, 40));
        Check.due("the least long and 12 more", Edges.busy().get(1, 0), Long.MIN_VALUE + 12);
    }

    // Promise 29: "Item i of it": the first, the last, and longs that are like refusals.
    private static void getEnds() {
        RotorBalancer x = Edges.busy();
        Check.due("the first", x.get(0, 0), 8);
        Check.due("the last", x.get(0, 4), 40);
        Check.due("the last of 40", x.get(2, 38), 8 * 59);
        Edges.hold(x, 0, Long.MIN_VALUE, Long.MIN_VALUE + 2, Long.MIN_VALUE + 11, Long.MAX_VALUE);
        x.write(0);
        Check.due("the least", x.get(0, 0), Long.MIN_VALUE);
        Check.due("like BAD", x.get(0, 1), Long.MIN_VALUE + 2);
        Check.due("like NULL", x.get(0, 2), Long.MIN_VALUE + 11);
        Check.due("no FINDING", x.count(8), 3);
    }

    // Promise 30: "BAD: the SHEETS", before "NULL .. INDEX".
    private static void copyBad() {
        for (int bad : NO_SHEETS) {
            Edges.refused("copy: s " + bad, Check.BAD, x -> x.copy(bad, 0, 0, 0, 1));
            Edges.refused("copy: t " + bad, Check.BAD, x -> x.copy(0, 0, bad, 0, 1));
            Edges.refused("copy: BAD before NULL", Check.BAD, x -> x.copy(3, 0, bad, 0, 1));
            Edges.refused("copy: BAD before INDEX", Check.BAD, x -> x.copy(bad, 0, 0, -1, -1));
        }
    }

    // Promise 30: "NULL: s, t", before "INDEX".
    private static void copyNull() {
        Edges.refused("copy: s is LOST", Check.NULL, x -> x.copy(3, 0, 0, 0, 1));
        Edges.refused("copy: t is LOST", Check.NULL, x -> x.copy(0, 0, 3, 0, 1));
        Edges.refused("copy: both are", Check.NULL, x -> x.copy(3, 0, 3, 0, 0));
        Edges.refused("copy: NULL before INDEX", Check.NULL, x -> x.copy(3, -1, 0, 0, 1));
        Edges.refused("copy: NULL before INDEX", Check.NULL, x -> x.copy(0, 9, 3, 0, 1));
        Edges.refused("copy: NULL before INDEX", Check.NULL, x -> x.copy(0, 0, 3, 0, -1));
    }

    // Promise 30: "INDEX: below 0": i, j, n.
    private static void copyBelow() {
        for (int bad : new int[] {-1, -5, Edges.LEAST}) {
            Edges.refused("copy: i " + bad, Check.INDEX, x -> x.copy(0, bad, 2, 0, 1));
            Edges.refused("copy: j " + bad, Check.INDEX, x -> x.copy(0, 0, 2, bad, 1));
            Edges.refused("copy: n " + bad, Check.INDEX, x -> x.copy(0, 0, 2, 0, bad));
            Edges.refused("copy: i, n 0", Check.INDEX, x -> x.copy(0, bad, 2, 0, 0));
            Edges.refused("copy: j, n 0", Check.INDEX, x -> x.copy(0, 0, 2, bad, 0));
            Edges.refused("copy: i and n", Check.INDEX, x -> x.copy(0, bad, 2, 0, bad));
            Edges.refused("copy: n, from the last on", Check.INDEX, x -> x.copy(0, 5, 2, 5, bad));
        }
    }

    // Promise 30: "INDEX: .. not so many": of s from i on, of t from j on.
    private static void copyNotSoMany() {
        int[][] bad = {
            {0, 0, 2, 0, 6}, {0, 1, 2, 0, 5}, {0, 4, 2, 0, 2}, {0, 5, 2, 0, 1}, {2, 0, 0, 0, 6}, {2, 0, 0, 1, 5},
            {2, 0, 0, 4, 2}, {2, 0, 0, 5, 1}, {2, 0, 2, 1, 40}, {2, 1, 2, 0, 40}, {2, 0, 2, 0, 41}, {1, 0, 0, 0, 1},
            {0, 0, 1, 0, 1}, {0, Edges.MOST, 2, 0, 1}, {0, 0, 2, Edges.MOST, 1}, {0, 0, 2, 0, Edges.MOST},
            {0, 1, 2, 1, Edges.MOST}, {0, Edges.MOST, 2, 0, Edges.MOST}
        };
        for (int[] v : bad) {
            Edges.refused("copy: not so many", Check.INDEX, x -> x.copy(v[0], v[1], v[2], v[3], v[4]));
        }
    }

    // Promise 30: "(with n 0, too, if i or j is above how many there are)".
    private static void copyNone() {
        int[][] bad = {
            {0, 6, 2, 0, 0}, {0, 0, 2, 41, 0}, {2, 41, 0, 0, 0}, {2, 0, 0, 6, 0}, {1, 1, 0, 0, 0}, {0, 0, 1, 1, 0},
            {0, Edges.MOST, 2, 0, 0}, {0, 0, 2, Edges.MOST, 0}
        };
        for (int[] v : bad) {
            Edges.refused("copy: none, above", Check.INDEX, x -> x.copy(v[0], v[1], v[2], v[3], v[4]));
        }
        int[][] good = {{0, 5, 2, 40, 0}, {2, 40, 0, 5, 0}, {1, 0, 0, 5, 0}, {0, 0, 1, 0, 0}, {1, 0, 1, 0, 0}};
        for (int[] v : good) {
            RotorBalancer x = Edges.busy();
            long last = x.get(0, 4);
            Check.due("copy: none", x.copy(v[0], v[1], v[2], v[3], v[4]), 1);
            Check.due("copy: none", x.get(0, 4), last);
            Check.due("copy: none", x.count(8), 3);
        }
    }

    // Promise 30: "n items of SHEET s, from i on, come to SHEET t, from j on": all, the first, the last.
    private static void copyAll() {
        RotorBalancer x = Edges.busy();
        Check.due("five, to the end", x.copy(0, 0, 2, 35, 5), 1);
        long[] five = {8, 0, 24, 0, 40};
        for (int i = 0; i < 5; i++) {
            Check.due("to the end", x.get(2, 35 + i), five[i]);
            Check.due("s as it was", x.get(0, i), five[i]);
        }
        Check.due("before them", x.get(2, 34), 8 * 55);
        Check.due("the last to the first", x.copy(2, 39, 0, 0, 1), 1);
        Check.due("the last to the first", x.get(0, 0), 40);
        Check.due("behind it", x.get(0, 1), 0);
        Check.due("all in itself", x.copy(2, 0, 2, 0, 40), 1);
        Check.due("all in itself", x.get(2, 0), 8 * 21);
    }

    // Promise 30: "(perhaps s, as they were)": up and down by one, within itself.
    private static void copyAsTheyWere() {
        RotorBalancer x = new RotorBalancer();
        x.sheet(0, 40);
        for (int i = 0; i < 40; i++) {
            x.lay(0, i, i, 0);
        }
        Check.due("up", x.copy(0, 0, 0, 1, 39), 1);
        for (int i = 0; i < 40; i++) {
            Check.due("up", x.get(0, i), i == 0 ? 0 : i - 1);
        }
        Check.due("down", x.copy(0, 1, 0, 0, 39), 1);
        for (int i = 0; i < 40; i++) {
            Check.due("down", x.get(0, i), i == 39 ? 38 : i);
        }
    }

    // Promise 31: "BAD", before "NULL".
    private static void writeBad() {
        for (int bad : NO_SHEETS) {
            Edges.refused("write: SHEET " + bad, Check.BAD, x -> x.write(bad));
        }
    }

    // Promise 31: "NULL".
    private static void writeNull() {
        Edges.refused("write: LOST", Check.NULL, x -> x.write(3));
    }

    // Promise 31: "as many as there are items": 0 to 30.
    private static void writeAsManyItems() {
        for (int n = 0; n <= 30; n++) {
            RotorBalancer x = Edges.busy();
            x.sheet(0, n);
            Check.due("as many", x.write(0), n);
            for (int i = 0; i < n; i++) {
                Check.due("item " + i, x.get(0, i), x.part(i / 5, i % 5));
            }
            Check.due("no more", x.get(0, n), Check.asLong(Check.INDEX));
        }
    }

    // Promise 31: "and numbers": 30, if there are more items, which stay.
    private static void writeAsManyNumbers() {
        RotorBalancer x = Edges.busy();
        Check.due("30 of 40", x.write(2), 30);
        Check.due("the last", x.get(2, 29), x.part(5, 4));
        for (int i = 30; i < 40; i++) {
            Check.due("as it was", x.get(2, i), i % 2 == 0 ? 8 * (21 + i) : 0);
        }
        x.sheet(0, 31);
        Check.due("30 of 31", x.write(0), 30);
        Check.due("0 as it was", x.get(0, 30), 0);
    }

    // Promise 31: "a, b, c, e, d of REGISTERS", longs at their ends too.
    private static void writeLongs() {
        RotorBalancer x = Edges.busy();
        Edges.hold(x, 0, Long.MIN_VALUE, Long.MAX_VALUE, -1, Long.MIN_VALUE + 1);
        Check.due("write", x.write(0), 5);
        long[] want = {Long.MIN_VALUE, Long.MAX_VALUE, -1, Long.MIN_VALUE + 1, 1};
        for (int i = 0; i < 5; i++) {
            Check.due("item " + i, x.get(0, i), want[i]);
        }
        Check.due("and back", x.read(4, 0, 0), 1);
        Check.dueNumber("and back", x, 4, want);
    }

    // Promise 32: "BAD": what 0 to 8.
    private static void countBad() {
        for (int bad : new int[] {-1, 9, 10, Edges.LEAST, Edges.MOST}) {
            Edges.refused("count: " + bad, Check.BAD, x -> x.count(bad));
        }
    }

    // Promise 32: "0 LUMPS, 1, 2 HOLES in PLANES 0, 1": none to all.
    private static void countLumpsAndHoles() {
        RotorBalancer x = new RotorBalancer();
        for (int i = 0; i <= 12; i++) {
            Check.due("LUMPS", x.count(0), i < 8 ? i : 8);
            Check.due("HOLES in PLANE 0", x.count(1), i);
            Check.due("HOLES in PLANE 1", x.count(2), 0);
            x.lump(1, 1, 1);
            x.drill(0, i % 12, 1);
        }
        Check.due("HOLES in PLANE 1", x.drill(1, 0, 1), 1);
        Check.due("HOLES in PLANE 1", x.count(2), 1);
        Check.due("HOLES in PLANE 0", x.count(1), 12);
    }

    // Promise 32: "3 TRIALS that are kept": 0 to 3.
    private static void countTrials() {
        RotorBalancer x = new RotorBalancer();
        for (int k = 2; k >= 0; k--) {
            Check.due("TRIALS", x.count(3), 2 - k);
            x.trial(k, 1, 1);
        }
        Check.due("TRIALS", x.count(3), 3);
        x.bearing(0, 0, 0, 2);
        Check.due("TRIALS", x.count(3), 0);
    }

    // Promise 32: "4, 5 whether PLANES 0, 1 are QUIET (1, 0)".
    private static void countQuiet() {
        for (int i = 0; i < 4; i++) {
            RotorBalancer x = new RotorBalancer();
            x.lump(1 + i % 2, 0, 0);
            x.lump(1 + i / 2, 0, 10);
            Check.due("PLANE 0", x.count(4), 1 - i % 2);
            Check.due("PLANE 1", x.count(5), 1 - i / 2);
        }
    }

    // Promise 32: "6 LIMIT, 7 SIZES as bits", at first and at their ends.
    private static void countLimitAndSizes() {
        RotorBalancer x = new RotorBalancer();
        Check.due("LIMIT", x.count(6), 1);
        Check.due("SIZES", x.count(7), 22);
        x.limit(0);
        x.sizes(2);
        Check.due("LIMIT", x.count(6), 0);
        Check.due("SIZES", x.count(7), 2);
        x.limit(99);
        x.sizes(128 | 256 | 512);
        Check.due("LIMIT", x.count(6), 99);
        Check.due("SIZES", x.count(7), 896);
    }

    // Promise 32: "8 the number of the latest FINDING (0 before any)": other refusals are none.
    private static void countNoFinding() {
        RotorBalancer x = new RotorBalancer();
        Check.due("before any", x.count(8), 0);
        x.put(6, 1, 1, 1, 1, 1);
        x.unlump();
        x.sheet(0, 41);
        x.get(4, 0);
        x.reckon(3, 0, 0, 0);
        for (int i = 0; i < 9; i++) {
            x.lump(1, 1, 1);
        }
        Check.due("refusals that are none", x.count(8), 0);
    }

    // Promise 32: "the latest FINDING": "1 NULL .. 2 INDEX .. 3 SIZE", one behind another.
    private static void countLatestFinding() {
        RotorBalancer x = new RotorBalancer();
        Check.due("SIZE", x.sheet(0, -1), -13);
        Check.due("SIZE", x.count(8), 3);
        Check.due("NULL", x.lose(0), -11);
        Check.due("NULL", x.count(8), 1);
        x.sheet(0, 0);
        Check.due("INDEX", x.read(0, 0, 0), -12);
        Check.due("INDEX", x.count(8), 2);
        x.sheet(0, 1);
        x.get(0, 0);
        x.unlump();
        x.sheet(0, 41);
        Check.due("what is none leaves it", x.count(8), 2);
        Check.due("NULL", x.write(1), -11);
        Check.due("NULL", x.count(8), 1);
    }

    // Promise 32 with Terms: FINDINGS "change nothing but count() 8": so not what digest() tells.
    private static void countFindingAlone() {
        RotorBalancer x = Edges.busy();
        long before = x.digest();
        x.lose(3);
        Check.due("NULL", x.digest(), before);
        x.get(0, 5);
        Check.due("INDEX", x.digest(), before);
        x.sheet(0, -1);
        Check.due("SIZE", x.digest(), before);
    }

    // Promise 33: "h is 17; h becomes 31 h and each of": of a new object.
    private static void digestNew() {
        RotorBalancer x = new RotorBalancer();
        Check.due("new", x.digest(), Edges.digestByCalls(new RotorBalancer()));
        Check.due("again", x.digest(), x.digest());
    }

    // Promise 33: "as longs that wrap": of parts at the ends of longs.
    private static void digestWraps() {
        long[][] ends = {
            {Long.MIN_VALUE, Long.MAX_VALUE, -1, 1}, {Long.MAX_VALUE, Long.MAX_VALUE, Long.MAX_VALUE, Long.MAX_VALUE},
            {Long.MIN_VALUE, Long.MIN_VALUE, Long.MIN_VALUE, Long.MIN_VALUE}
        };
        for (int r = 0; r < ends.length; r++) {
            RotorBalancer x = Edges.busy();
            long before = x.digest();
            Edges.hold(x, r, ends[r]);
            Check.dueTrue("another", x.digest() != before);
            Check.due("wraps", x.digest(), Edges.digestByCalls(x));
        }
    }

    // Promise 33: "of each thing all that is told of it, then of the next one".
    private static void digestOfEachThing() {
        Check.due("something of everything", Edges.busy().digest(), Edges.digestByCalls(Edges.busy()));
        for (int k = 0; k < 12; k++) {
            RotorBalancer x = Edges.busy();
            x.lawful(0, 4095 - (1 << k));
            x.lawful(1, 1 << k);
            x.fill(1, 9);
            x.drill(1, k, 2);
            x.trial(2, 5, k);
            Check.due("ANGLE " + k, x.digest(), Edges.digestByCalls(x));
        }
    }

    // Promise 33: "fewest(of it, 2, 0 to 2)": two HOLES and no more.
    private static void digestTwoHoles() {
        RotorBalancer x = new RotorBalancer();
        x.limit(0);
        x.sizes(512);
        for (int many = 1; many <= 3; many++) {
            x.lump(9, many, 0);
            Check.due("of PLANE 0", x.fewest(0, 2, 0), many < 3 ? many : Check.NONE);
            Check.due(many + " would do", x.digest(), Edges.digestByCalls(x));
        }
    }

    // Promise 33: it changes nothing, a FINDING neither.
    private static void digestChangesNothing() {
        RotorBalancer x = Edges.busy();
        long first = x.digest();
        Check.due("the latest FINDING", x.count(8), 3);
        Check.due("TRIALS", x.count(3), 3);
        Check.due("again", x.digest(), first);
        x.sheet(3, 4);
        x.lay(3, 0, 9, 9);
        Check.due("SHEETS are no part of it", x.digest(), first);
    }
}
