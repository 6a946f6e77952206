/** The OPS on numbers, 7 to 18 and 24, against Java's own, on edges and on many bits. */
public final class NumbersTest {
    private static final Checks CHECKS = new Checks("NumbersTest");
    private static final int INT = FileRow.INT;
    private static final int DOUBLE = FileRow.DOUBLE;

    private static final double[] EDGES = {
        0.0, -0.0, 1.0, -1.0, 0.5, -0.5, 1.5, 2.0, 3.0, 10.0, 0.1, -0.1, 1.0 / 3, Math.PI,
        Double.MIN_VALUE, -Double.MIN_VALUE, 3 * Double.MIN_VALUE, Double.MIN_NORMAL, -Double.MIN_NORMAL,
        Double.MIN_NORMAL - Double.MIN_VALUE, Double.MAX_VALUE, -Double.MAX_VALUE, Double.MAX_VALUE / 2,
        Double.POSITIVE_INFINITY, Double.NEGATIVE_INFINITY, Double.NaN,
        0x1p52, 0x1p52 + 1, 0x1p52 + 0.5, 0x1p51 + 0.5, -0x1p51 - 0.5, 0x1p53, 0x1p53 - 1, -0x1p53, 0x1p54 + 2,
        2147483647.0, 2147483647.5, 2147483648.0, -2147483648.0, -2147483648.5, -2147483649.0, 4294967296.0,
        0.9999999999999999, 1.0000000000000002, -0.9999999999999999, -1.0000000000000002,
        0x1p-1022 * 1.5, 0x1p-537, 0x1p-538, 0x1.fffffffffffffp-537, 0x1p511, 0x1p512, 0x1.fffffffffffffp511,
        4.0, 9.0, 2.25, 1e308, 1e-308, 1e-320, 1e16, -1e16, 123456789.125
    };
    private static final int[] INTS = {
        0, 1, -1, 2, -2, 7, -7, 10, 46341, -46341, 65536, 16777217, Integer.MAX_VALUE, Integer.MIN_VALUE,
        Integer.MAX_VALUE - 1, Integer.MIN_VALUE + 1
    };

    /** So many that an object, with the calls that feed it, is used for fewer calls than the document allows. */
    private static final int MOST_ANSWERS = 150;

    private final int[] row;
    private InstrumentFiles it;
    private int answers;
    private long seed = 20261118;

    private NumbersTest(int[] row) {
        this.row = row;
    }

    public static void main(String[] args) {
        NumbersTest reckoning = new NumbersTest(pairs(11, 12, 13, 14, 18, DOUBLE));
        reckoning.edges();
        reckoning.nearEach();
        reckoning.anyBits();
        reckoning.besideTies();
        new NumbersTest(pairs(7, 8, 9, 10, 17, INT)).ints();
        NumbersTest listed = new NumbersTest(listedFile());
        listed.eachListed();
        listed.manyListed();
        new NumbersTest(castFile()).casts();
        notANumber();
        CHECKS.end();
    }

    /** Five METHODS of two numbers each, one OP in each. */
    private static int[] pairs(int first, int second, int third, int fourth, int below, int kind) {
        FileRow row = FileRow.of(1).pool(5).word("a").word("b").word("c").word("d").word("e").methods(5);
        int name = 0;
        for (int op : new int[] {first, second, third, fourth, below}) {
            row.head(name, op == below ? INT : kind, 2, 2, kind, kind).code(3, 0, 3, 1, op, 22).maps(0);
            name++;
        }
        return row.sealed();
    }

    private static int[] listedFile() {
        FileRow row = FileRow.of(1).pool(4).word("abs").word("root").word("floor").word("sign").methods(4);
        for (int name = 0; name < 4; name++) {
            row.head(name, DOUBLE, 1, 1, DOUBLE).code(3, 0, 24, name, 22).maps(0);
        }
        return row.sealed();
    }

    private static int[] castFile() {
        return FileRow.of(1).pool(2).word("up").word("down").methods(2)
            .head(0, DOUBLE, 1, 1, INT).code(3, 0, 15, 22).maps(0)
            .head(1, INT, 1, 1, DOUBLE).code(3, 0, 16, 22).maps(0).sealed();
    }

    private long answer(int m, long a, long b) {
        if (it == null || answers == MOST_ANSWERS) {
            it = FileRow.fed(row);
            answers = 0;
            CHECKS.holds("the FILE is sound", it.read() > 0);
        }
        answers++;
        int called = it.call(m, a, b, 0, 9);
        return called == 1 ? it.result() : called == 0 ? 1000L * it.told(0) : called;
    }

    private long next() {
        seed = seed * 6364136223846793005L + 1442695040888963407L;
        return seed ^ (seed >>> 29);
    }

    private void pair(double x, double y) {
        long a = Double.doubleToRawLongBits(x);
        long b = Double.doubleToRawLongBits(y);
        String of = " of " + x + ", " + y;
        CHECKS.same("sum" + of, answer(0, a, b), FileRow.bits(x + y));
        CHECKS.same("difference" + of, answer(1, a, b), FileRow.bits(x - y));
        CHECKS.same("product" + of, answer(2, a, b), FileRow.bits(x * y));
        CHECKS.same("quotient" + of, answer(3, a, b), FileRow.bits(x / y));
        CHECKS.same("below" + of, answer(4, a, b), x < y ? 1 : 0);
    }

    private void edges() {
        for (double x : EDGES) {
            for (double y : EDGES) {
                pair(x, y);
            }
        }
    }

    /** Scales near to one another, so that sums are lost to rounding and differences cancel. */
    private void nearEach() {
        for (int i = 0; i < 20000; i++) {
            long a = next();
            long scale = ((a >>> 52) & 2047) + (next() % 60);
            long b = (next() & 0x800fffffffffffffL) | (Math.max(0, Math.min(2046, scale)) << 52);
            if (i % 3 == 0) {
                b = (a ^ (next() & 7)) ^ (next() & Long.MIN_VALUE);
            }
            pair(Double.longBitsToDouble(a), Double.longBitsToDouble(b));
        }
    }

    /** Half of them with few digits, so that ties come up; scales whose product or quotient leaves the range. */
    private void anyBits() {
        for (int i = 0; i < 60000; i++) {
            long a = next();
            long b = next();
            if (i % 2 == 0) {
                a &= -1L << (next() & 63);
                b &= -1L << (next() & 63);
            }
            if (i % 5 == 0) {
                a &= 0x801fffffffffffffL;
            }
            if (i % 7 == 0) {
                long scale = ((a >>> 52) & 2047) + (next() % 70);
                b = (b & 0x800fffffffffffffL) | (Math.max(0, Math.min(2046, 1023 + 1075 - scale)) << 52);
            }
            if (i % 11 == 0) {
                long scale = 1023 + ((a >>> 52) & 2047) + (next() % 70);
                b = (b & 0x800fffffffffffffL) | (Math.max(0, Math.min(2046, scale)) << 52);
            }
            pair(Double.longBitsToDouble(a), Double.longBitsToDouble(b));
        }
    }

    /** Products whose bits below the last kept one are those of a tie and one more, or one less. */
    private void besideTies() {
        int asked = 0;
        for (int i = 0; i < 2000; i++) {
            long x = (1L << 52) | (next() & ((1L << 52) - 1)) | 1;
            long inverse = x;
            for (int round = 0; round < 6; round++) {
                inverse *= 2 - x * inverse;
            }
            long tie = 1L << (51 + (i & 1));
            long y = inverse * ((i & 2) == 0 ? tie + 1 : tie - 1) & ((1L << (52 + (i & 1))) - 1);
            if (y >= 1L << 51) {
                asked++;
                pair(x, y);
                pair(-x, y);
            }
        }
        CHECKS.holds("there are such products", asked > 500);
    }

    private void ints() {
        for (int x : INTS) {
            for (int y : INTS) {
                String of = " of " + x + ", " + y;
                it = null;
                CHECKS.same("sum" + of, answer(0, x, y), x + y);
                CHECKS.same("difference" + of, answer(1, x, y), x - y);
                CHECKS.same("product" + of, answer(2, x, y), x * y);
                CHECKS.same("quotient" + of, answer(3, x, y), y == 0 ? 1000 : x / y);
                CHECKS.same("below" + of, answer(4, x, y), x < y ? 1 : 0);
                long high = 0x7abcdef100000000L;
                CHECKS.same("of the lowest bits", answer(0, high | (x & 0xffffffffL), (long) y << 32 | y & 0xffffffffL),
                    x + y);
            }
        }
    }

    private void one(double x) {
        long a = Double.doubleToRawLongBits(x);
        CHECKS.same("abs of " + x, answer(0, a, 0), FileRow.bits(Math.abs(x)));
        CHECKS.same("root of " + x, answer(1, a, 0), FileRow.bits(Math.sqrt(x)));
        CHECKS.same("floor of " + x, answer(2, a, 0), FileRow.bits(Math.floor(x)));
        CHECKS.same("sign of " + x, answer(3, a, 0), FileRow.bits(Math.signum(x)));
    }

    private void eachListed() {
        for (double x : EDGES) {
            one(x);
        }
    }

    private void manyListed() {
        for (int i = 0; i < 60000; i++) {
            long a = next();
            if (i % 2 == 0) {
                a &= -1L << (next() & 63);
            }
            if (i % 3 == 0) {
                a = (a & 0x800fffffffffffffL) | ((1018 + (next() & 63)) << 52);
            }
            if (i % 5 == 0) {
                a &= 0x801fffffffffffffL;
            }
            double x = Double.longBitsToDouble(a);
            one(x);
            one(x * x);
        }
    }

    private void casts() {
        for (int x : INTS) {
            CHECKS.same(x + " as a DOUBLE", answer(0, x, 0), FileRow.bits(x));
        }
        for (double x : EDGES) {
            CHECKS.same(x + " as an INT", answer(1, Double.doubleToRawLongBits(x), 0), (int) x);
        }
        for (int i = 0; i < 40000; i++) {
            int x = (int) next() >> (i & 31);
            CHECKS.same(x + " as a DOUBLE", answer(0, x, 0), FileRow.bits(x));
            long a = (next() & 0x800fffffffffffffL) | ((1015 + (next() & 63)) << 52);
            double y = Double.longBitsToDouble(a);
            CHECKS.same(y + " as an INT", answer(1, a, 0), (int) y);
        }
    }

    /** However its bits come in, what is no number is told as one row of bits. */
    private static void notANumber() {
        long[] rows = {0x7ff0000000000001L, 0x7fffffffffffffffL, 0xfff0000000000001L, 0xfff8000000000000L, -1L};
        long told = 9221120237041090560L;
        for (long bits : rows) {
            InstrumentFiles it = FileRow.fed(FileRow.of(1).pool(2).word("a").doubleBits(bits).methods(1)
                .head(0, DOUBLE, 2, 2, DOUBLE, INT).code(3, 1, 20, 7, 2, 1, 22, 3, 0, 22)
                .maps(1).add(7, 2, 1, 0).sealed());
            CHECKS.same("read", it.read(), 1);
            CHECKS.same("the entry", it.pool(1, 1), told);
            CHECKS.same("call", it.call(0, 0, 1, 0, 9), 1);
            CHECKS.same("the entry given back", it.result(), told);
            CHECKS.same("call", it.call(0, bits, 0, 0, 9), 1);
            CHECKS.same("what was taken given back", it.result(), told);
            InstrumentFiles other = FileRow.fed(FileRow.of(1).pool(1).word("a").methods(1)
                .head(0, DOUBLE, 1, 1, INT).code(3, 0, 23, 22).maps(0).sealed());
            CHECKS.same("read", other.read(), 1);
            CHECKS.same("table", other.table(5, bits), 1);
            CHECKS.same("call", other.call(0, 5, 0, 0, 9), 1);
            CHECKS.same("the TABLE's given back", other.result(), told);
        }
    }
}
