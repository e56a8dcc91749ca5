/** Promises 26 to 33: sheets, findings, count, digest. */
public final class SheetsTest {
    private static final int MIN = Integer.MIN_VALUE;
    private static final int MAX = Integer.MAX_VALUE;

    public static void main(String[] args) {
        sheet();
        lose();
        lay();
        get();
        copy();
        copyRefusals();
        write();
        count();
        findings();
        digest();
        Check.end();
    }

    private static void sheet() {
        RotorBalancer x = new RotorBalancer();
        Check.due("40", x.sheet(0, 40), 40);
        Check.due("0", x.sheet(3, 0), 0);
        Check.due("there are none", x.get(3, 0), Check.asLong(Check.INDEX));
        x.lay(0, 0, 9, 0);
        x.lay(0, 5, 9, 0);
        x.lay(0, 39, 9, 0);
        Check.due("a new row", x.sheet(0, 6), 6);
        for (int i = 0; i < 6; i++) {
            Check.due("0 at first", x.get(0, i), 0);
        }
        Check.due("shorter", x.get(0, 6), Check.asLong(Check.INDEX));
        Check.due("longer", x.sheet(0, 40), 40);
        Check.due("0 at first", x.get(0, 39), 0);
        Check.due("41", x.sheet(0, 41), Check.BAD);
        Check.due("size", x.sheet(0, -1), Check.SIZE);
        Check.due("size", x.sheet(0, MIN), Check.SIZE);
        Check.due("finding", x.count(8), 3);
        Check.due("sheet before size", x.sheet(4, -1), Check.BAD);
        Check.due("sheet -1", x.sheet(-1, 3), Check.BAD);
        Check.due("most", x.sheet(0, MAX), Check.BAD);
        Check.due("as it was", x.lose(0), 40);
    }

    private static void lose() {
        RotorBalancer x = new RotorBalancer();
        x.sheet(1, 7);
        Check.due("lose", x.lose(1), 7);
        Check.due("lost", x.lose(1), Check.NULL);
        Check.due("finding", x.count(8), 1);
        x.sheet(1, 0);
        Check.due("empty", x.lose(1), 0);
        Check.due("4", x.lose(4), Check.BAD);
        Check.due("-1", x.lose(-1), Check.BAD);
        x.sheet(2, 2);
        x.lay(2, 1, 5, 0);
        x.lose(2);
        x.sheet(2, 2);
        Check.due("new again", x.get(2, 1), 0);
    }

    private static void lay() {
        RotorBalancer x = new RotorBalancer();
        x.sheet(2, 3);
        Check.due("lay", x.lay(2, 0, -5, 0), 1);
        Check.due("lay", x.lay(2, 1, 3, 62), 1);
        Check.due("lay", x.lay(2, 2, MIN, 32), 1);
        Check.due("plain", x.get(2, 0), -5);
        Check.due("wraps", x.get(2, 1), -1L << 62);
        Check.due("least", x.get(2, 2), Long.MIN_VALUE);
        x.lay(2, 2, MAX, 31);
        Check.due("beyond an int", x.get(2, 2), (long) MAX << 31);
        Check.due("index", x.lay(2, 3, 1, 0), Check.INDEX);
        Check.due("index", x.lay(2, -1, 1, 0), Check.INDEX);
        Check.due("finding", x.count(8), 2);
        Check.due("lost", x.lay(0, 9, 1, 0), Check.NULL);
        Check.due("finding", x.count(8), 1);
        Check.due("how often, before lost", x.lay(0, 0, 1, 63), Check.BAD);
        Check.due("how often", x.lay(2, 0, 1, -1), Check.BAD);
        Check.due("sheet", x.lay(4, 0, 1, 0), Check.BAD);
        Check.due("sheet", x.lay(-1, 0, 1, 0), Check.BAD);
        Check.due("as it was", x.get(2, 0), -5);
    }

    private static void get() {
        RotorBalancer x = new RotorBalancer();
        x.sheet(3, 2);
        x.lay(3, 1, 4, 1);
        Check.due("get", x.get(3, 1), 8);
        Check.due("index", x.get(3, 2), Long.MIN_VALUE + 12);
        Check.due("index", x.get(3, -1), Long.MIN_VALUE + 12);
        Check.due("finding", x.count(8), 2);
        Check.due("lost", x.get(0, 0), Long.MIN_VALUE + 11);
        Check.due("finding", x.count(8), 1);
        Check.due("sheet", x.get(4, 0), Long.MIN_VALUE + 2);
        Check.due("sheet", x.get(-1, 0), Long.MIN_VALUE + 2);
    }

    private static RotorBalancer withRow() {
        RotorBalancer x = new RotorBalancer();
        x.sheet(0, 5);
        for (int i = 0; i < 5; i++) {
            x.lay(0, i, i + 1, 0);
        }
        x.sheet(1, 3);
        return x;
    }

    private static void dueRow(String what, RotorBalancer x, int s, long... want) {
        for (int i = 0; i < want.length; i++) {
            Check.due(what + ": get(" + s + ", " + i + ")", x.get(s, i), want[i]);
        }
    }

    private static void copy() {
        RotorBalancer x = withRow();
        Check.due("copy", x.copy(0, 3, 1, 1, 2), 1);
        dueRow("copy", x, 1, 0, 4, 5);
        Check.due("up in itself", x.copy(0, 0, 0, 1, 4), 1);
        dueRow("up in itself", x, 0, 1, 1, 2, 3, 4);
        Check.due("down in itself", x.copy(0, 1, 0, 0, 4), 1);
        dueRow("down in itself", x, 0, 1, 2, 3, 4, 4);
        Check.due("none, at the end", x.copy(0, 5, 1, 3, 0), 1);
        Check.due("all", x.copy(1, 0, 0, 2, 3), 1);
        dueRow("all", x, 0, 1, 2, 0, 4, 5);
    }

    private static void copyRefusals() {
        RotorBalancer x = withRow();
        int[][] index = {
            {0, -1, 1, 0, 1}, {0, 0, 1, -1, 1}, {0, 0, 1, 0, -1}, {0, 4, 1, 0, 2}, {0, 0, 1, 2, 2}, {0, 6, 1, 0, 0},
            {0, 0, 1, 4, 0}, {0, 0, 1, 0, 4}, {0, 1, 1, 0, MAX}, {0, MAX, 1, 0, 1}, {0, 0, 1, MAX, MAX}, {0, 0, 1, 0, MIN},
            {0, MIN, 1, 0, MIN}
        };
        for (int[] v : index) {
            Check.due("index", x.copy(v[0], v[1], v[2], v[3], v[4]), Check.INDEX);
        }
        Check.due("finding", x.count(8), 2);
        Check.due("t lost", x.copy(0, -1, 2, 0, 1), Check.NULL);
        Check.due("s lost", x.copy(2, 0, 0, -1, 1), Check.NULL);
        Check.due("finding", x.count(8), 1);
        int[][] bad = {{-1, 0, 2, 0, 1}, {4, 0, 2, 0, 1}, {2, 0, -1, 0, 1}, {2, 0, 4, 0, -1}};
        for (int[] v : bad) {
            Check.due("bad", x.copy(v[0], v[1], v[2], v[3], v[4]), Check.BAD);
        }
        dueRow("as it was", x, 0, 1, 2, 3, 4, 5);
        dueRow("as it was", x, 1, 0, 0, 0);
    }

    private static void write() {
        RotorBalancer x = new RotorBalancer();
        x.put(0, 2, 4, 6, 8, 10);
        x.put(1, -1, 0, 0, 3, 2);
        x.put(5, 7, 0, 0, 0, 9);
        x.sheet(0, 31);
        x.lay(0, 30, 77, 0);
        Check.due("all", x.write(0), 30);
        dueRow("all", x, 0, 1, 2, 3, 4, 5, -1, 0, 0, 3, 2, 0, 0, 0, 0, 1);
        Check.due("the last", x.get(0, 25), 7);
        Check.due("the last", x.get(0, 29), 9);
        Check.due("behind them", x.get(0, 30), 77);
        x.sheet(1, 6);
        Check.due("six", x.write(1), 6);
        dueRow("six", x, 1, 1, 2, 3, 4, 5, -1);
        x.sheet(2, 0);
        Check.due("none", x.write(2), 0);
        x.sheet(2, 30);
        Check.due("just all", x.write(2), 30);
        x.sheet(2, 29);
        Check.due("all but one", x.write(2), 29);
        Check.due("lost", x.write(3), Check.NULL);
        Check.due("finding", x.count(8), 1);
        Check.due("4", x.write(4), Check.BAD);
        Check.due("-1", x.write(-1), Check.BAD);
    }

    private static void count() {
        RotorBalancer x = new RotorBalancer();
        x.lump(2, 0, 10);
        x.lump(2, 1, 10);
        x.lump(2, 1, 10);
        x.drill(0, 0, 1);
        x.drill(1, 0, 1);
        x.drill(1, 6, 1);
        x.trial(2, 1, 1);
        x.limit(3);
        x.sizes(8);
        int[] want = {3, 1, 2, 1, 1, 0, 3, 8, 0};
        for (int what = 0; what < want.length; what++) {
            Check.due("count(" + what + ")", x.count(what), want[what]);
        }
        Check.due("-1", x.count(-1), Check.BAD);
        Check.due("9", x.count(9), Check.BAD);
        Check.due("most", x.count(MAX), Check.BAD);
    }

    private static void findings() {
        RotorBalancer x = new RotorBalancer();
        long before = x.digest();
        x.sheet(0, -1);
        Check.due("SIZE", x.count(8), 3);
        x.lose(0);
        Check.due("NULL", x.count(8), 1);
        x.sheet(0, 1);
        x.get(0, 1);
        Check.due("INDEX", x.count(8), 2);
        x.get(0, 0);
        x.put(9, 1, 1, 1, 1, 1);
        x.unlump();
        Check.due("the latest stays", x.count(8), 2);
        Check.due("nothing else changed", x.digest(), before);
    }

    private static void digest() {
        RotorBalancer x = new RotorBalancer();
        Check.due("new", x.digest(), Edges.digestByCalls(x));
        x = new RotorBalancer();
        x.put(0, 1, -2, 3, -4, 5);
        x.put(5, 6, 7, 8, 9, 10);
        x.lump(7, 1, 3);
        x.lump(5, 10, 8);
        x.drill(0, 2, 3);
        x.drill(1, 9, 1);
        x.lawful(0, 4095 - 2 - 32);
        x.lawful(1, 9);
        x.sizes(34);
        x.limit(2);
        x.trial(0, 0, 0);
        x.trial(2, 3, 4);
        long first = x.digest();
        Check.due("full", first, Edges.digestByCalls(x));
        Check.due("the same again", x.digest(), first);
        RotorBalancer three = new RotorBalancer();
        three.lump(4, 0, 10);
        three.lump(2, 3, 10);
        three.lump(1, 7, 10);
        three.limit(0);
        Check.due("three holes would do", three.fewest(1, 3, 0), 3);
        Check.due("two do not", three.digest(), Edges.digestByCalls(three));
        x.sheet(0, 4);
        x.lay(0, 0, 9, 9);
        x.get(0, 9);
        Check.due("sheets and findings are no part of it", x.digest(), first);
    }
}
