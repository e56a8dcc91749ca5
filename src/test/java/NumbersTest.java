/** Promises 1 to 6: a new object, put, read, reckon, part, compare. */
public final class NumbersTest {
    private static final int SUM = 0, DIFFERENCE = 1, PRODUCT = 2, QUOTIENT = 3;

    public static void main(String[] args) {
        newObject();
        put();
        read();
        sums();
        products();
        quotients();
        overInSums();
        overInProducts();
        overInQuotients();
        reckonRefusals();
        part();
        compare();
        compareRefusals();
        Check.end();
    }

    private static void newObject() {
        RotorBalancer x = new RotorBalancer();
        for (int r = 0; r < 6; r++) {
            Check.dueNumber("new", x, r, 0, 0, 0, 0, 1);
        }
        int[] counts = {0, 0, 0, 0, 1, 1, 1, 22, 0};
        for (int what = 0; what < counts.length; what++) {
            Check.due("new: count(" + what + ")", x.count(what), counts[what]);
        }
        for (int s = 0; s < 4; s++) {
            Check.due("new: lose(" + s + ")", x.lose(s), Check.NULL);
        }
        for (int plane = 0; plane < 2; plane++) {
            Check.due("new: lawful", x.lawful(plane, 4095), 4095);
            Check.duePull("new", x, plane, 0, 0, 0, 0, 1, 0, 0, 0, 0, 1);
            for (int k = 0; k < 12; k++) {
                Check.due("new: hole", x.hole(plane, k), 0);
            }
        }
        for (int k = 0; k < 3; k++) {
            Check.due("new: reading", x.reading(k, 0, 0), Check.asLong(Check.NOT));
        }
    }

    private static void put() {
        RotorBalancer x = new RotorBalancer();
        Check.due("put", x.put(0, 4, 6, -8, 10, 6), 1);
        Check.dueNumber("lowest terms", x, 0, 2, 3, -4, 5, 3);
        Check.due("put 0", x.put(0, 0, 0, 0, 0, 9), 1);
        Check.dueNumber("0 by 9", x, 0, 0, 0, 0, 0, 1);
        x.put(5, 0, 0, 0, -4, 2);
        Check.dueNumber("only e", x, 5, 0, 0, 0, -2, 1);
        x.put(1, Integer.MIN_VALUE, 0, 0, 0, Integer.MAX_VALUE);
        Check.dueNumber("ends of ints", x, 1, Integer.MIN_VALUE, 0, 0, 0, Integer.MAX_VALUE);
        x.put(1, Integer.MIN_VALUE, Integer.MIN_VALUE, 0, Integer.MIN_VALUE, 1 << 30);
        Check.dueNumber("powers", x, 1, -2, -2, 0, -2, 1);
        x.put(1, 6, 10, 15, 30, 30);
        Check.dueNumber("no divisor of all", x, 1, 6, 10, 15, 30, 30);
        Check.due("d 0", x.put(1, 1, 1, 1, 1, 0), Check.BAD);
        Check.due("d -1", x.put(1, 1, 1, 1, 1, -1), Check.BAD);
        Check.due("d least", x.put(1, 1, 1, 1, 1, Integer.MIN_VALUE), Check.BAD);
        Check.due("r -1", x.put(-1, 1, 1, 1, 1, 1), Check.BAD);
        Check.due("r 6", x.put(6, 1, 1, 1, 1, 1), Check.BAD);
        Check.dueNumber("as it was", x, 1, 6, 10, 15, 30, 30);
    }

    private static void read() {
        RotorBalancer x = new RotorBalancer();
        x.put(0, 1, 0, 0, 0, 3);
        x.sheet(0, 5);
        for (int i = 0; i < 5; i++) {
            x.lay(0, i, 2 * i + 2, i == 4 ? 60 : 0);
        }
        Check.due("read", x.read(0, 0, 0), 1);
        Check.dueNumber("by 1", x, 0, 2, 4, 6, 8, 1);
        Check.due("read last", x.read(0, 0, 1), 1);
        Check.dueNumber("wrapped", x, 0, 4, 6, 8, 10L << 60, 1);
        Check.due("too far", x.read(0, 0, 2), Check.INDEX);
        Check.due("finding", x.count(8), 2);
        Check.due("lost", x.read(0, 1, -1), Check.NULL);
        Check.due("finding", x.count(8), 1);
        Check.due("below", x.read(0, 0, -1), Check.INDEX);
        Check.due("far below", x.read(0, 0, Integer.MIN_VALUE), Check.INDEX);
        Check.due("far beyond", x.read(0, 0, Integer.MAX_VALUE), Check.INDEX);
        x.sheet(2, 3);
        Check.due("short", x.read(0, 2, 0), Check.INDEX);
        x.sheet(2, 0);
        Check.due("empty", x.read(0, 2, 0), Check.INDEX);
        x.lose(2);
        Check.due("lost again", x.read(0, 2, 0), Check.NULL);
        Check.due("r first", x.read(6, 1, 0), Check.BAD);
        Check.due("r below", x.read(-1, 0, 0), Check.BAD);
        Check.due("s 4", x.read(0, 4, 0), Check.BAD);
        Check.due("s -1", x.read(0, -1, 0), Check.BAD);
        Check.due("finding stays", x.count(8), 1);
        Check.dueNumber("as it was", x, 0, 4, 6, 8, 10L << 60, 1);
    }

    private static void sums() {
        RotorBalancer x = new RotorBalancer();
        x.put(0, 1, 2, -3, 5, 6);
        x.put(1, 3, -1, 4, 7, 4);
        Check.due("sum", x.reckon(SUM, 0, 1, 2), 1);
        Check.dueNumber("sum", x, 2, 11, 1, 6, 31, 12);
        Check.due("difference", x.reckon(DIFFERENCE, 0, 1, 2), 1);
        Check.dueNumber("difference", x, 2, -7, 7, -18, -11, 12);
        Check.due("to itself", x.reckon(SUM, 0, 0, 0), 1);
        Check.dueNumber("twice", x, 0, 1, 2, -3, 5, 3);
        Check.due("less itself", x.reckon(DIFFERENCE, 0, 0, 0), 1);
        Check.dueNumber("0", x, 0, 0, 0, 0, 0, 1);
        Check.dueNumber("the other", x, 1, 3, -1, 4, 7, 4);
    }

    private static void products() {
        RotorBalancer x = new RotorBalancer();
        x.put(0, 1, 2, 3, 4, 1);
        x.put(1, 5, 6, 7, 8, 1);
        Check.due("product", x.reckon(PRODUCT, 0, 1, 2), 1);
        Check.dueNumber("product", x, 2, -76, -36, 142, 60, 1);
        x.put(3, 0, 1, 0, 0, 2);
        x.reckon(PRODUCT, 3, 3, 3);
        Check.dueNumber("ROOT times ROOT", x, 3, 3, 0, 0, 0, 4);
        x.put(4, 0, 0, 1, 0, 1);
        x.reckon(PRODUCT, 4, 4, 5);
        Check.dueNumber("TURNED times TURNED", x, 5, -1, 0, 0, 0, 1);
        x.put(4, 2, 0, 0, 0, 3);
        x.put(5, 3, 0, 9, 0, 4);
        x.reckon(PRODUCT, 4, 5, 5);
        Check.dueNumber("lowest", x, 5, 1, 0, 3, 0, 2);
    }

    private static void quotients() {
        RotorBalancer x = new RotorBalancer();
        x.put(0, -76, -36, 142, 60, 1);
        x.put(1, 5, 6, 7, 8, 1);
        Check.due("quotient", x.reckon(QUOTIENT, 0, 1, 2), 1);
        Check.dueNumber("quotient", x, 2, 1, 2, 3, 4, 1);
        x.put(0, 1, 0, 0, 0, 1);
        x.put(1, 0, 1, 0, 0, 1);
        x.reckon(QUOTIENT, 0, 1, 2);
        Check.dueNumber("1 by ROOT", x, 2, 0, 1, 0, 0, 3);
        x.put(1, 2, -1, 0, 0, 1);
        x.reckon(QUOTIENT, 0, 1, 2);
        Check.dueNumber("1 by 2 less ROOT", x, 2, 2, 1, 0, 0, 1);
        x.put(1, 1, 1, 0, 0, 5);
        x.reckon(QUOTIENT, 0, 1, 2);
        Check.dueNumber("5 by 1 and ROOT", x, 2, -5, 5, 0, 0, 2);
        x.put(1, 0, 0, 0, -2, 7);
        x.reckon(QUOTIENT, 0, 1, 1);
        Check.dueNumber("by turned roots", x, 1, 0, 0, 0, 7, 6);
        x.put(3, -4, 0, 0, 0, 1);
        x.reckon(QUOTIENT, 0, 3, 3);
        Check.dueNumber("d stays above 0", x, 3, -1, 0, 0, 0, 4);
        x.put(4, 3, 1, -2, 5, 7);
        x.reckon(QUOTIENT, 4, 4, 4);
        Check.dueNumber("by itself", x, 4, 1, 0, 0, 0, 1);
        x.put(5, 0, 0, 0, 0, 1);
        Check.due("0 by a number", x.reckon(QUOTIENT, 5, 4, 3), 1);
        Check.dueNumber("0 by a number", x, 3, 0, 0, 0, 0, 1);
    }

    /** REGISTER 0 most, 1 least, 2 the half of that, 3 one. */
    private static RotorBalancer withEnds() {
        RotorBalancer x = new RotorBalancer();
        x.put(3, 1, 0, 0, 0, 1);
        Check.load(x, 2, 0, new int[] {1, 0, 0, 0}, new int[] {62, 0, 0, 0});
        x.reckon(DIFFERENCE, 2, 3, 0);
        Check.due("most", x.reckon(SUM, 0, 2, 0), 1);
        Check.dueNumber("most", x, 0, Long.MAX_VALUE, 0, 0, 0, 1);
        Check.load(x, 1, 0, new int[] {-2, 0, 0, 0}, new int[] {62, 0, 0, 0});
        Check.dueNumber("least", x, 1, Long.MIN_VALUE, 0, 0, 0, 1);
        return x;
    }

    private static void overInSums() {
        RotorBalancer x = withEnds();
        Check.due("most and 1", x.reckon(SUM, 0, 3, 4), Check.OVER);
        Check.due("1 and most", x.reckon(SUM, 3, 0, 0), Check.OVER);
        Check.due("half and half", x.reckon(SUM, 2, 2, 4), Check.OVER);
        Check.due("least less 1", x.reckon(DIFFERENCE, 1, 3, 4), Check.OVER);
        Check.due("0 less least", x.reckon(DIFFERENCE, 4, 1, 4), Check.OVER);
        Check.dueNumber("nothing changed", x, 4, 0, 0, 0, 0, 1);
        Check.dueNumber("nothing changed", x, 0, Long.MAX_VALUE, 0, 0, 0, 1);
        Check.due("most and least", x.reckon(SUM, 0, 1, 5), 1);
        Check.dueNumber("most and least", x, 5, -1, 0, 0, 0, 1);
        Check.due("-1 less least", x.reckon(DIFFERENCE, 5, 1, 4), 1);
        Check.dueNumber("-1 less least", x, 4, Long.MAX_VALUE, 0, 0, 0, 1);
        Check.due("least less 0", x.reckon(DIFFERENCE, 1, 1, 4), 1);
        Check.due("least less 0", x.reckon(DIFFERENCE, 1, 4, 4), 1);
        Check.dueNumber("least", x, 4, Long.MIN_VALUE, 0, 0, 0, 1);
        x.put(5, 0, 0, 0, 0, 1);
        x.put(4, 1, 0, 0, 0, 2);
        Check.due("least by 1 and 1 by 2", x.reckon(SUM, 1, 4, 5), Check.OVER);
        Check.due("1 by 2 and least by 1", x.reckon(SUM, 4, 1, 5), Check.OVER);
        x.put(4, 1, 0, 0, 0, 1 << 30);
        x.reckon(PRODUCT, 4, 4, 4);
        Check.dueNumber("a small one", x, 4, 1, 0, 0, 0, 1L << 60);
        Check.due("d l before lowest terms", x.reckon(SUM, 4, 4, 5), Check.OVER);
        Check.due("d l before lowest terms", x.reckon(DIFFERENCE, 4, 4, 5), Check.OVER);
        overInEachPart();
    }

    private static void overInEachPart() {
        for (int i = 0; i < 4; i++) {
            RotorBalancer x = new RotorBalancer();
            int[] values = new int[4];
            values[i] = 1;
            Check.load(x, 0, 0, values, new int[] {62, 62, 62, 62});
            Check.due("sum in part " + i, x.reckon(SUM, 0, 0, 2), Check.OVER);
            Check.due("difference in part " + i, x.reckon(DIFFERENCE, 0, 0, 2), 1);
            values[i] = -2;
            Check.load(x, 1, 0, values, new int[] {62, 62, 62, 62});
            Check.due("difference in part " + i, x.reckon(DIFFERENCE, 0, 1, 2), Check.OVER);
            Check.due("sum in part " + i, x.reckon(SUM, 1, 0, 2), 1);
            Check.due("part " + i, x.part(2, i), -1L << 62);
        }
    }

    private static void overInProducts() {
        RotorBalancer x = withEnds();
        x.put(4, -1, 0, 0, 0, 1);
        Check.due("least by -1", x.reckon(PRODUCT, 1, 4, 5), Check.OVER);
        Check.due("-1 by least", x.reckon(PRODUCT, 4, 1, 5), Check.OVER);
        Check.due("most by -1", x.reckon(PRODUCT, 0, 4, 5), 1);
        Check.dueNumber("most by -1", x, 5, -Long.MAX_VALUE, 0, 0, 0, 1);
        Check.due("least by 1", x.reckon(PRODUCT, 1, 3, 5), 1);
        Check.due("half by -2", x.reckon(PRODUCT, 2, 2, 5), Check.OVER);
        Check.dueNumber("nothing changed", x, 5, Long.MIN_VALUE, 0, 0, 0, 1);
        thriceFromTheLeft(x, 1, "3 b");
        thriceFromTheLeft(x, 3, "3 e");
        Check.load(x, 0, 0, new int[] {1, 1, -1, 0}, new int[] {62, 61, 62, 0});
        x.put(1, 1, 1, -1, 0, 1);
        Check.due("a f and 3 b g before what is less", x.reckon(PRODUCT, 0, 1, 5), Check.OVER);
        x.put(1, 1, 0, -1, 0, 1);
        Check.due("without it", x.reckon(PRODUCT, 0, 1, 5), 1);
        Check.dueNumber("without it", x, 5, 0, 1L << 61, Long.MIN_VALUE, -1L << 61, 1);
        x.put(0, 1, 0, 0, 0, 1 << 30);
        x.reckon(PRODUCT, 0, 0, 0);
        x.put(1, 8, 0, 0, 0, 1);
        Check.due("d l fits", x.reckon(PRODUCT, 0, 1, 5), 1);
        Check.dueNumber("d l fits", x, 5, 1, 0, 0, 0, 1L << 57);
        x.put(1, 1, 0, 0, 0, 8);
        Check.due("d l", x.reckon(PRODUCT, 0, 1, 5), Check.OVER);
    }

    /** 3 times the first one's is reckoned before the second one's comes to it, be that 0. */
    private static void thriceFromTheLeft(RotorBalancer x, int i, String what) {
        int[] values = new int[4];
        values[i] = 1;
        Check.load(x, 0, 0, values, new int[] {62, 62, 62, 62});
        Check.due(what + " beyond", x.reckon(PRODUCT, 0, 3, 5), Check.OVER);
        Check.due(what + " of 0", x.reckon(PRODUCT, 3, 0, 5), 1);
        Check.load(x, 0, 0, values, new int[] {61, 61, 61, 61});
        Check.due(what + " within", x.reckon(PRODUCT, 0, 3, 5), 1);
        Check.due(what + " within", x.part(5, i), 1L << 61);
    }

    private static void overInQuotients() {
        RotorBalancer x = new RotorBalancer();
        x.put(0, 1, 0, 0, 0, 1);
        x.put(1, 55108, 0, 0, 0, 1);
        Check.due("T fits", x.reckon(QUOTIENT, 0, 1, 2), 1);
        Check.dueNumber("T fits", x, 2, 1, 0, 0, 0, 55108);
        x.put(1, 55109, 0, 0, 0, 1);
        Check.due("T beyond", x.reckon(QUOTIENT, 0, 1, 2), Check.OVER);
        Check.dueNumber("nothing changed", x, 2, 1, 0, 0, 0, 55108);
        x.put(1, 1 << 15, 0, 0, 0, 1);
        x.put(0, 1 << 20, 0, 0, 0, 1);
        Check.due("RECIPROCAL in lowest terms", x.reckon(QUOTIENT, 0, 1, 2), 1);
        Check.dueNumber("RECIPROCAL in lowest terms", x, 2, 32, 0, 0, 0, 1);
        x.put(1, 20000, 0, 0, 0, Integer.MAX_VALUE);
        Check.due("times d", x.reckon(QUOTIENT, 0, 1, 2), Check.OVER);
        x.put(1, 1000, 0, 0, 0, Integer.MAX_VALUE);
        Check.due("times d fits", x.reckon(QUOTIENT, 0, 1, 2), 1);
        for (int i = 0; i < 4; i++) {
            int[] values = new int[4];
            values[i] = -2;
            Check.load(x, 3, 0, values, new int[] {62, 62, 62, 62});
            Check.due("by the least, part " + i, x.reckon(QUOTIENT, 0, 3, 2), Check.OVER);
        }
    }

    private static void reckonRefusals() {
        RotorBalancer x = withEnds();
        Check.due("ZERO, not OVER", x.reckon(QUOTIENT, 1, 4, 0), Check.ZERO);
        Check.dueNumber("nothing changed", x, 0, Long.MAX_VALUE, 0, 0, 0, 1);
        Check.due("what 4", x.reckon(4, 0, 4, 0), Check.BAD);
        Check.due("what -1", x.reckon(-1, 0, 4, 0), Check.BAD);
        for (int bad : new int[] {-1, 6, Integer.MIN_VALUE, Integer.MAX_VALUE}) {
            Check.due("r", x.reckon(QUOTIENT, bad, 4, 0), Check.BAD);
            Check.due("s", x.reckon(SUM, 0, bad, 0), Check.BAD);
            Check.due("t", x.reckon(QUOTIENT, 0, 4, bad), Check.BAD);
        }
    }

    private static void part() {
        RotorBalancer x = new RotorBalancer();
        x.put(5, 2, -3, 5, -7, 11);
        Check.dueNumber("part", x, 5, 2, -3, 5, -7, 11);
        Check.due("part -1", x.part(5, -1), Check.asLong(Check.BAD));
        Check.due("part 5", x.part(5, 5), Check.asLong(Check.BAD));
        Check.due("r -1", x.part(-1, 0), Check.asLong(Check.BAD));
        Check.due("r 6", x.part(6, 0), Long.MIN_VALUE + 2);
    }

    private static void compare() {
        RotorBalancer x = new RotorBalancer();
        x.put(1, 0, 1, 0, 0, 1);
        x.put(0, 1351, 0, 0, 0, 780);
        Check.due("just above ROOT", x.compare(0, 1), 1);
        Check.due("ROOT just below", x.compare(1, 0), -1);
        x.put(0, 265, 0, 0, 0, 153);
        Check.due("just below ROOT", x.compare(0, 1), -1);
        Check.due("ROOT just above", x.compare(1, 0), 1);
        Check.due("itself", x.compare(1, 1), 0);
        x.put(2, 0, 0, 0, 0, 1);
        x.put(3, 2, 3, 0, 0, 5);
        Check.due("like signs", x.compare(3, 2), 1);
        Check.due("like signs below", x.compare(2, 3), -1);
        Check.due("ROOT and 0", x.compare(1, 2), 1);
        Check.due("0 and ROOT", x.compare(2, 1), -1);
        x.put(3, 4, 0, 0, 0, 5);
        Check.due("no roots", x.compare(3, 2), 1);
        x.put(4, 1, 0, 3, 1, 1);
        x.put(5, 2, 0, 3, 1, 1);
        Check.due("turned parts alike", x.compare(4, 5), -1);
    }

    private static void compareRefusals() {
        RotorBalancer x = withEnds();
        x.put(4, 0, 0, 1, 0, 1);
        Check.due("turned", x.compare(3, 4), Check.NOT);
        x.put(4, 0, 0, 0, 1, 1);
        Check.due("turned roots", x.compare(3, 4), Check.NOT);
        x.put(4, -1, 0, 0, 0, 1);
        Check.due("difference beyond", x.compare(0, 4), Check.OVER);
        x.put(4, -1, 0, 1, 0, 1);
        Check.due("difference beyond, before turned", x.compare(0, 4), Check.OVER);
        x.put(4, 0, 1, 0, 0, 1);
        Check.due("a a beyond", x.compare(0, 4), Check.OVER);
        Check.due("a a beyond, below", x.compare(4, 2), Check.OVER);
        Check.due("most less 0, no squares are set against each other", x.compare(0, 5), 1);
        Check.load(x, 4, 0, new int[] {0, 1, 0, 0}, new int[] {0, 62, 0, 0});
        Check.due("3 b beyond", x.compare(4, 3), Check.OVER);
        Check.load(x, 4, 0, new int[] {0, 1, 0, 0}, new int[] {0, 31, 0, 0});
        Check.due("3 b b beyond", x.compare(4, 3), Check.OVER);
        Check.load(x, 4, 0, new int[] {0, 1, 0, 0}, new int[] {0, 30, 0, 0});
        Check.due("3 b b within", x.compare(4, 3), 1);
        Check.due("r", x.compare(6, 0), Integer.MIN_VALUE);
        Check.due("r", x.compare(-1, 0), Integer.MIN_VALUE);
        Check.due("s", x.compare(0, 6), Integer.MIN_VALUE);
        Check.due("s", x.compare(0, -1), Integer.MIN_VALUE);
    }
}
