/** Each bound that Terms 2 names of what an OP does, for promises 13, 14 and 15: wraps, ZERO, INDEX, and DOUBLES. */
public final class EdgesOfOpsTest {
    private static final Checks CHECKS = new Checks("EdgesOfOpsTest");
    private static final int ZERO = 1, INDEX = 2, SPENT = 3;
    private static final int I = FileRow.INT;
    private static final int D = FileRow.DOUBLE;
    private static final int MIN = Integer.MIN_VALUE;
    private static final int MAX = Integer.MAX_VALUE;
    private static final double INFINITY = Double.POSITIVE_INFINITY;
    private static final double NAN = Double.NaN;
    private static final long NO_NUMBER = 9221120237041090560L;

    public static void main(String[] args) {
        nothingAndMoves();
        intsInTheirOrder();
        intsWrap();
        zero();
        doublesInTheirOrder();
        doublesAsTheLanguageHasThem();
        intAsADouble();
        doubleAsAnInt();
        intsBelow();
        doublesBelow();
        goes();
        goesIfZero();
        takesTheLastOnTop();
        givesBack();
        tableIndex();
        listedWords();
        CHECKS.end();
    }

    private static InstrumentFiles read(FileRow row) {
        InstrumentFiles it = FileRow.fed(row.sealed());
        CHECKS.holds("the FILE is sound", it.read() > 0);
        return it;
    }

    /** METHOD 0 of x and y: both are pushed, then comes the OP, and what it pushes is given back. */
    private static InstrumentFiles ofTwo(int op, int kind, int gives) {
        return read(FileRow.of(1).pool(1).word("a").methods(1).head(0, gives, 2, 2, kind, kind)
            .code(3, 0, 3, 1, op, 22).maps(0));
    }

    private static InstrumentFiles ofOne(int op, int kind, int gives) {
        return read(FileRow.of(1).pool(1).word("a").methods(1).head(0, gives, 1, 1, kind).code(3, 0, op, 22).maps(0));
    }

    private static void gives(String what, InstrumentFiles it, long a, long b, long due) {
        CHECKS.same("call of " + what, it.call(0, a, b, 0, 1000), 1);
        CHECKS.same("result of " + what, it.result(), due);
        CHECKS.same("told(0) of " + what, it.told(0), 0);
        CHECKS.same("told(3) of " + what, it.told(3), InstrumentFiles.NONE);
    }

    private static void fails(String what, InstrumentFiles it, long a, long b, int failure, int place) {
        CHECKS.same("call of " + what, it.call(0, a, b, 0, 1000), 0);
        CHECKS.same("result of " + what, it.result(), 0);
        CHECKS.same("told(0) of " + what, it.told(0), failure);
        CHECKS.same("told(3) of " + what, it.told(3), place);
    }

    private static void nothingAndMoves() {
        CHECKS.about("Terms 2", "0 nothing. 1 e: push the INT of entry e. 2 e: the DOUBLE. 3 l: push LOCAL l. "
            + "4 l: what is popped comes to LOCAL l, its KIND too. 5: push the top again. 6: pop.");
        InstrumentFiles ints = read(FileRow.of(1).pool(3).word("a").anInt(MIN).anInt(MAX).methods(1).head(0, I, 0, 1)
            .code(0, 1, 2, 0, 6, 1, 1, 22).maps(0));
        gives("the lowest INT of an entry", ints, 0, 0, MIN);
        InstrumentFiles doubles = read(FileRow.of(1).pool(2).word("a").aDouble(-0.0).methods(1).head(0, D, 0, 1)
            .code(2, 1, 22).maps(0));
        gives("-0.0 of an entry", doubles, 0, 0, Long.MIN_VALUE);
        InstrumentFiles noNumber = read(FileRow.of(1).pool(2).word("a").doubleBits(-1).methods(1).head(0, D, 0, 1)
            .code(2, 1, 22).maps(0));
        gives("no number of an entry", noNumber, 0, 0, NO_NUMBER);
        InstrumentFiles sixth = read(FileRow.of(1).pool(1).word("a").methods(1).head(0, I, 6, 6, I, I)
            .code(3, 0, 4, 5, 3, 1, 4, 0, 3, 5, 5, 5, 5, 5, 5, 4, 4, 6, 6, 6, 3, 0, 8, 22).maps(0));
        gives("LOCAL 5 less the new LOCAL 0", sixth, 100, 3, 97);
        InstrumentFiles popped = read(FileRow.of(1).pool(3).word("a").anInt(30).anInt(4).methods(1).head(0, I, 0, 3)
            .code(1, 1, 1, 2, 5, 6, 8, 1, 2, 6, 22).maps(0));
        gives("30 less 4: 6 pops what 5 and 1 have pushed", popped, 0, 0, 26);
    }

    private static void intsInTheirOrder() {
        CHECKS.about("Terms 2", "7 .. 10: y, then x (INTS) are popped, push x + y, x - y, x y, x / y");
        gives("7 + 2", ofTwo(7, I, I), 7, 2, 9);
        gives("7 - 2", ofTwo(8, I, I), 7, 2, 5);
        gives("7 times 2", ofTwo(9, I, I), 7, 2, 14);
        gives("7 / 2", ofTwo(10, I, I), 7, 2, 3);
        gives("-7 / 2, towards 0", ofTwo(10, I, I), -7, 2, -3);
        gives("7 / -2, towards 0", ofTwo(10, I, I), 7, -2, -3);
        gives("-7 / -2", ofTwo(10, I, I), -7, -2, 3);
        gives("1 / 2", ofTwo(10, I, I), 1, 2, 0);
    }

    private static void intsWrap() {
        CHECKS.about("Terms 2", "(they wrap; ZERO)");
        InstrumentFiles sum = ofTwo(7, I, I);
        gives("the highest + 1", sum, MAX, 1, MIN);
        gives("the highest + 0", sum, MAX, 0, MAX);
        gives("the highest + the highest", sum, MAX, MAX, -2);
        gives("the lowest + -1", sum, MIN, -1, MAX);
        gives("the lowest + the lowest", sum, MIN, MIN, 0);
        InstrumentFiles difference = ofTwo(8, I, I);
        gives("the lowest - 1", difference, MIN, 1, MAX);
        gives("the highest - -1", difference, MAX, -1, MIN);
        gives("0 - the lowest", difference, 0, MIN, MIN);
        gives("-1 - the lowest", difference, -1, MIN, MAX);
        InstrumentFiles product = ofTwo(9, I, I);
        gives("65536 times 65536", product, 65536, 65536, 0);
        gives("65536 times 32768", product, 65536, 32768, MIN);
        gives("65536 times -32768", product, 65536, -32768, MIN);
        gives("the lowest times -1", product, MIN, -1, MIN);
        gives("46341 times 46341", product, 46341, 46341, -2147479015);
        gives("46340 times 46340", product, 46340, 46340, 2147395600);
        gives("the highest times the highest", product, MAX, MAX, 1);
        InstrumentFiles quotient = ofTwo(10, I, I);
        gives("the lowest / -1", quotient, MIN, -1, MIN);
        gives("the lowest / 1", quotient, MIN, 1, MIN);
        gives("the highest / -1", quotient, MAX, -1, -MAX);
        gives("the highest / the lowest", quotient, MAX, MIN, 0);
        gives("the lowest / the lowest", quotient, MIN, MIN, 1);
    }

    private static void zero() {
        CHECKS.about("Terms 2", "x / y (they wrap; ZERO)");
        for (long x : new long[] {0, 1, -1, MIN, MAX}) {
            InstrumentFiles it = ofTwo(10, I, I);
            fails(x + " / 0", it, x, 0, ZERO, 4);
            fails(x + " / a number whose lowest 32 bits are 0", it, x, 0x7fffffff00000000L, ZERO, 4);
            gives(x + " / 1", it, x, 1, x);
            gives(x + " / -1", it, x, -1, (int) -x);
        }
        for (int op = 7; op <= 9; op++) {
            gives("0 and 0 with OP " + op, ofTwo(op, I, I), 0, 0, 0);
        }
    }

    private static void doublesInTheirOrder() {
        CHECKS.about("Terms 2", "11 .. 14: likewise of DOUBLES");
        long x = FileRow.bits(7);
        long y = FileRow.bits(2);
        gives("7 + 2", ofTwo(11, D, D), x, y, FileRow.bits(9));
        gives("7 - 2", ofTwo(12, D, D), x, y, FileRow.bits(5));
        gives("7 times 2", ofTwo(13, D, D), x, y, FileRow.bits(14));
        gives("7 / 2", ofTwo(14, D, D), x, y, FileRow.bits(3.5));
    }

    private static void doubles(InstrumentFiles it, int op, double x, double y) {
        double due = op == 11 ? x + y : op == 12 ? x - y : op == 13 ? x * y : x / y;
        gives(x + " and " + y + " with OP " + op, it, Double.doubleToRawLongBits(x), Double.doubleToRawLongBits(y),
            Double.isNaN(due) ? NO_NUMBER : Double.doubleToRawLongBits(due));
    }

    private static void doublesAsTheLanguageHasThem() {
        CHECKS.about("Terms 2", "likewise of DOUBLES (as the language has them)");
        double max = Double.MAX_VALUE;
        double least = Double.MIN_VALUE;
        double normal = Double.MIN_NORMAL;
        double[][] pairs = {{0.0, max}, {-0.0, max}, {-1, -1}, {-7, -2}, {-7, 2}, {0.0, 0.0}, {0.0, -0.0}, {-0.0, 0.0}, {-0.0, -0.0}, {1, 0.0}, {1, -0.0}, {-1, 0.0}, {1, 1},
            {1, -1}, {max, max}, {max, -max}, {max, 0x1p970}, {max, 0x1p969}, {max, 0x1.8p969}, {-max, 0x1p970},
            {max, 2}, {max, 0.5}, {max, least}, {least, least}, {least, -least}, {least, 2}, {least, 0.5}, {least, 0.75},
            {normal, least}, {normal, 2}, {normal, 0.5}, {normal, 1 + 0x1p-52}, {normal, 1 - 0x1p-53}, {normal, -least},
            {INFINITY, INFINITY}, {INFINITY, -INFINITY}, {-INFINITY, -INFINITY}, {INFINITY, 0.0}, {INFINITY, -0.0},
            {INFINITY, 1}, {INFINITY, -1}, {1, INFINITY}, {-1, INFINITY}, {0.0, INFINITY}, {NAN, 1}, {1, NAN},
            {NAN, NAN}, {NAN, INFINITY}, {INFINITY, NAN}, {NAN, 0.0}, {0.0, NAN}, {0x1p53, 1}, {0x1p53, -1}, {0x1p53, 3},
            {0x1p53 + 2, 1}, {0x1p53 + 2, 1 + 0x1p-52}, {0x1p53, 0.5}, {1, 0x1p-53}, {1, 0x1p-54}, {1, -0x1p-53},
            {1, -0x1p-54}, {1, -0x1p-55}, {1 + 0x1p-52, 0x1p-53}, {0.1, 0.2}, {1, 3}, {2, 3}, {10, 0.1}};
        for (int op = 11; op <= 14; op++) {
            InstrumentFiles it = ofTwo(op, D, D);
            for (double[] pair : pairs) {
                doubles(it, op, pair[0], pair[1]);
            }
        }
        for (int op = 11; op <= 14; op++) {
            InstrumentFiles it = ofTwo(op, D, D);
            for (double[] pair : pairs) {
                doubles(it, op, pair[1], pair[0]);
            }
        }
        gives("no ZERO of DOUBLES", ofTwo(14, D, D), FileRow.bits(1), FileRow.bits(0.0), 0x7ff0000000000000L);
    }

    private static void intAsADouble() {
        CHECKS.about("Terms 2", "15: an INT as a DOUBLE.");
        InstrumentFiles it = ofOne(15, I, D);
        for (int x : new int[] {0, 1, -1, MIN, MAX, MIN + 1, MAX - 1, 16777217, -16777217, 2, 3, 1 << 30, 65535}) {
            gives(x + " as a DOUBLE", it, x, 0, Double.doubleToRawLongBits(x));
        }
    }

    private static void doubleAsAnInt() {
        CHECKS.about("Terms 2", "16: a DOUBLE as an INT, as the language casts it.");
        InstrumentFiles it = ofOne(16, D, I);
        double[] values = {0.0, -0.0, 0.5, -0.5, 0.9999999999999999, -0.9999999999999999, 1, -1, 1.9999999999999998,
            -1.9999999999999998, 2147483646.9999998, 2147483647, 2147483647.9999998, 2147483648.0, 2147483649.0,
            -2147483647.9999998, -2147483648.0, -2147483648.9999995, -2147483649.0, 4294967295.0, 4294967296.0,
            4294967297.0, 9223372036854775807.0, -9223372036854775808.0, 1e300, -1e300, INFINITY, -INFINITY, NAN,
            Double.MIN_VALUE, -Double.MIN_VALUE, Double.MAX_VALUE, -Double.MAX_VALUE, 1073741823.5, 1073741824.5};
        for (double x : values) {
            gives(x + " as an INT", it, Double.doubleToRawLongBits(x), 0, (int) x);
        }
        gives("above the highest", it, FileRow.bits(2147483648.0), 0, MAX);
        gives("below the lowest", it, FileRow.bits(-2147483649.0), 0, MIN);
        gives("no number", it, -1, 0, 0);
    }

    private static void intsBelow() {
        CHECKS.about("Terms 2", "17: y, x INTS: push 1, if x is below y, else 0.");
        InstrumentFiles it = ofTwo(17, I, I);
        int[] values = {MIN, MIN + 1, -1, 0, 1, MAX - 1, MAX};
        for (int i = 0; i < values.length; i++) {
            for (int j = 0; j < values.length; j++) {
                gives(values[i] + " below " + values[j], it, values[i], values[j], i < j ? 1 : 0);
            }
        }
    }

    private static void doublesBelow() {
        CHECKS.about("Terms 2", "18: DOUBLES, likewise.");
        InstrumentFiles it = ofTwo(18, D, I);
        double[] values = {-INFINITY, -Double.MAX_VALUE, -1, -Double.MIN_VALUE, 0.0, Double.MIN_VALUE, 1,
            Double.MAX_VALUE, INFINITY};
        for (int i = 0; i < values.length; i++) {
            for (int j = 0; j < values.length; j++) {
                gives(values[i] + " below " + values[j], it, FileRow.bits(values[i]), FileRow.bits(values[j]), i < j ? 1 : 0);
            }
        }
        InstrumentFiles other = ofTwo(18, D, I);
        gives("-0.0 below 0.0", other, FileRow.bits(-0.0), FileRow.bits(0.0), 0);
        gives("0.0 below -0.0", other, FileRow.bits(0.0), FileRow.bits(-0.0), 0);
        gives("-0.0 below the least", other, FileRow.bits(-0.0), 1, 1);
        gives("the least below 0 below -0.0", other, Long.MIN_VALUE + 1, FileRow.bits(-0.0), 1);
        for (double x : values) {
            gives("no number below " + x, other, NO_NUMBER, FileRow.bits(x), 0);
            gives(x + " below no number", other, FileRow.bits(x), NO_NUMBER, 0);
        }
        gives("no number below no number", other, NO_NUMBER, -1, 0);
    }

    private static void goes() {
        CHECKS.about("Terms 2", "19 t: the OP at t is next.");
        InstrumentFiles itself = read(FileRow.of(1).pool(1).word("a").methods(1).endless(0));
        fails("19 to itself", itself, 0, 0, SPENT, 0);
        CHECKS.same("STEPS", itself.told(1), 1000);
        int[] code = new int[48];
        code[0] = 1;
        code[1] = 1;
        code[2] = 19;
        code[3] = 47;
        code[44] = 22;
        code[47] = 22;
        InstrumentFiles last = read(FileRow.of(1).pool(2).word("a").anInt(8).methods(1).head(0, I, 0, 1).code(code).maps(3)
            .add(4, 1, I).add(45, 1, I).add(47, 1, I));
        gives("19 to the last place", last, 0, 0, 8);
        CHECKS.same("STEPS", last.told(1), 3);
    }

    private static void goesIfZero() {
        CHECKS.about("Terms 2", "20 t: if the INT that is popped is 0, the OP at t is next.");
        InstrumentFiles it = read(FileRow.of(1).pool(3).word("a").anInt(10).anInt(20).methods(1).head(0, I, 1, 1, I)
            .code(3, 0, 20, 7, 1, 1, 22, 1, 2, 22).maps(1).add(7, 0, 0));
        gives("0", it, 0, 0, 20);
        for (long x : new long[] {1, -1, MIN, MAX, 256, 65536}) {
            gives("not 0: " + x, it, x, 0, 10);
        }
        gives("0 in its lowest 32 bits", it, 0x100000000L, 0, 20);
        gives("not 0 in its lowest 32 bits", it, 0x80000000L, 0, 10);
    }

    private static void takesTheLastOnTop() {
        CHECKS.about("Terms 2", "what it TAKES is popped (the last on top); push what it GIVES.");
        InstrumentFiles it = read(FileRow.of(1).pool(5).word("a").word("b").anInt(100).anInt(10).anInt(1).methods(2)
            .head(0, I, 0, 4).code(1, 4, 1, 2, 1, 3, 1, 4, 21, 1, 7, 22).maps(0)
            .head(1, I, 3, 2, I, I, I).code(3, 0, 3, 1, 8, 3, 2, 10, 22).maps(0));
        gives("1 + (100 - 10) / 1", it, 0, 0, 91);
        InstrumentFiles none = read(FileRow.of(1).pool(3).word("a").word("b").anInt(5).methods(2)
            .head(0, I, 0, 1).code(21, 1, 22).maps(0).head(1, I, 0, 1).code(1, 2, 22).maps(0));
        gives("what TAKES nothing", none, 0, 0, 5);
    }

    private static void givesBack() {
        CHECKS.about("Terms 2", "22: what is popped is given back.");
        InstrumentFiles top = read(FileRow.of(1).pool(3).word("a").anInt(1).anInt(2).methods(1).head(0, I, 0, 6)
            .code(1, 1, 1, 1, 1, 1, 1, 1, 1, 1, 1, 2, 22).maps(0));
        gives("the top of six", top, 0, 0, 2);
        InstrumentFiles inner = read(FileRow.of(1).pool(5).word("a").word("b").anInt(100).anInt(30).anInt(4).methods(2)
            .head(0, I, 0, 2).code(1, 2, 21, 1, 8, 22).maps(0)
            .head(1, I, 0, 6).code(1, 3, 1, 3, 1, 3, 1, 3, 1, 3, 1, 4, 22).maps(0));
        gives("100 less what is given back, the rest of the inner STACK being gone", inner, 0, 0, 96);
    }

    private static void tableIndex() {
        CHECKS.about("Terms 2", "23: an INT i is popped, push TABLE i, a DOUBLE (0 .. 7; 0.0 at first; INDEX)");
        InstrumentFiles it = ofOne(23, I, D);
        for (int i = 0; i <= 7; i++) {
            gives("TABLE " + i + " at first", it, i, 0, 0);
            CHECKS.same("table", it.table(i, FileRow.bits(i + 1)), 1);
        }
        for (int i = 0; i <= 7; i++) {
            gives("TABLE " + i, it, i, 0, FileRow.bits(i + 1));
        }
        gives("TABLE 7, by its lowest 32 bits", it, 0x5500000007L, 0, FileRow.bits(8));
        fails("TABLE 8", it, 8, 0, INDEX, 2);
        fails("TABLE -1", it, -1, 0, INDEX, 2);
        InstrumentFiles far = ofOne(23, I, D);
        fails("TABLE the highest", far, MAX, 0, INDEX, 2);
        fails("TABLE the lowest", far, MIN, 0, INDEX, 2);
    }

    private static InstrumentFiles listed(String word) {
        return read(FileRow.of(1).pool(2).word("a").word(word).methods(1).head(0, D, 1, 1, D).code(3, 0, 24, 1, 22).maps(0));
    }

    private static void listedWords() {
        CHECKS.about("Terms 2", "pop a DOUBLE, push Math.abs, sqrt, floor, signum of it");
        double[] values = {0.0, -0.0, 1, -1, 0.5, -0.5, 2, -2, 2.25, 4, 0.9999999999999999, -0.9999999999999999,
            1.0000000000000002, -1.0000000000000002, Double.MIN_VALUE, -Double.MIN_VALUE, Double.MIN_NORMAL,
            Double.MAX_VALUE, -Double.MAX_VALUE, INFINITY, -INFINITY, NAN, 0x1p51 + 0.5, -0x1p51 - 0.5, 0x1p52, -0x1p52,
            0x1p52 + 1, 0x1p53, 4503599627370495.5, -4503599627370495.5, 0x1p-1074 * 4, 0x1p-1022 * 1.5};
        InstrumentFiles abs = listed("abs");
        InstrumentFiles root = listed("root");
        InstrumentFiles floor = listed("floor");
        InstrumentFiles sign = listed("sign");
        for (double x : values) {
            long bits = Double.doubleToRawLongBits(x);
            gives("abs of " + x, abs, bits, 0, FileRow.bits(Math.abs(x)));
            gives("root of " + x, root, bits, 0, FileRow.bits(Math.sqrt(x)));
            gives("floor of " + x, floor, bits, 0, FileRow.bits(Math.floor(x)));
            gives("sign of " + x, sign, bits, 0, FileRow.bits(Math.signum(x)));
        }
        gives("root of what is below 0: no number", root, FileRow.bits(-1), 0, NO_NUMBER);
        gives("root of -0.0", root, Long.MIN_VALUE, 0, Long.MIN_VALUE);
        gives("floor of -0.0", floor, Long.MIN_VALUE, 0, Long.MIN_VALUE);
        gives("sign of -0.0", sign, Long.MIN_VALUE, 0, Long.MIN_VALUE);
        gives("abs of -0.0", abs, Long.MIN_VALUE, 0, 0);
        gives("abs of no number", abs, -1, 0, NO_NUMBER);
        gives("sign of no number", sign, -1, 0, NO_NUMBER);
    }
}
