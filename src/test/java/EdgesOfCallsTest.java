/** Each bound that Terms 3 names, for promises 10 and 13 to 16: STEPS, how a CALL FAILS, ASIDE, BITS. */
public final class EdgesOfCallsTest {
    private static final Checks CHECKS = new Checks("EdgesOfCallsTest");
    private static final int ZERO = 1, INDEX = 2, SPENT = 3, DEEP = 4;
    private static final int I = FileRow.INT;
    private static final int D = FileRow.DOUBLE;
    private static final long NO_NUMBER = 9221120237041090560L;

    public static void main(String[] args) {
        theFileThatWasReadLast();
        eachOpIsAStep();
        zeroAndIndex();
        oneStepMore();
        whatWouldBegin();
        aNinthCall();
        callsBehindOneAnother();
        fullStacksWithinOneAnother();
        deepOrSpent();
        asideAtTheThird();
        asideByZeroAndIndexAlone();
        asideOfCallsFromOutside();
        asideTillTheNextFile();
        bitsOfAnInt();
        bitsOfADouble();
        notLookedAt();
        CHECKS.end();
    }

    private static InstrumentFiles five() {
        return Samples.read(Samples.five(), 5, CHECKS);
    }

    private static void told(String what, InstrumentFiles it, int... due) {
        for (int i = 0; i < due.length; i++) {
            CHECKS.same("told(" + i + ") of " + what, it.told(i), due[i]);
        }
    }

    private static void theFileThatWasReadLast() {
        CHECKS.about("Terms 3", "A CALL of a METHOD of the FILE that was read last");
        InstrumentFiles it = five();
        it.wipe();
        CHECKS.same("call when THE TAPE is wiped", it.call(4, 0, 0, 0, 2), 1);
        FileRow.feed(it, FileRow.of(1).pool(2).word("a").anInt(44).methods(1).head(0, I, 0, 1).code(1, 1, 22).maps(0)
            .sealed());
        CHECKS.same("call of the FILE that is not read yet", it.call(4, 0, 0, 0, 2), 1);
        CHECKS.same("result", it.result(), 6);
        CHECKS.same("read", it.read(), 1);
        CHECKS.same("call of the FILE before", it.call(4, 0, 0, 0, 2), InstrumentFiles.UNKNOWN);
        CHECKS.same("call behind the last METHOD", it.call(1, 0, 0, 0, 2), InstrumentFiles.UNKNOWN);
        CHECKS.same("call", it.call(0, 0, 0, 0, 2), 1);
        CHECKS.same("result", it.result(), 44);
        it.alter(0, 1);
        CHECKS.same("read of what is no FILE", it.read(), -200);
        CHECKS.same("call then", it.call(0, 0, 0, 0, 2), InstrumentFiles.UNKNOWN);
    }

    private static void eachOpIsAStep() {
        CHECKS.about("Terms 3", "each OP that begins is a STEP.");
        for (int zeros = 0; zeros <= 45; zeros++) {
            int[] code = new int[zeros + 3];
            code[zeros] = 1;
            code[zeros + 1] = 1;
            code[zeros + 2] = 22;
            InstrumentFiles it = Samples.read(FileRow.of(1).pool(2).word("a").anInt(3).methods(1).head(0, I, 0, 1)
                .code(code).maps(0), 1, CHECKS);
            CHECKS.same("call", it.call(0, 0, 0, 0, 1000), 1);
            told(zeros + " times OP 0, and two more", it, 0, zeros + 2, 0, -1, 1);
        }
        InstrumentFiles it = five();
        it.call(0, 1, 0, 0, 1000);
        told("the OP that FAILED is one, too", it, ZERO, 3, 0, 4, 1);
        it.call(3, 9, 3, 0, 1000);
        told("those of the inner CALL are, too", it, 0, 10, 3, -1, 2);
    }

    private static void zeroAndIndex() {
        CHECKS.about("Terms 3", "It FAILS: 1 ZERO, 2 INDEX,");
        InstrumentFiles it = five();
        int[] divisors = {-1, 0, 1};
        for (int y : divisors) {
            CHECKS.same("6 / " + y, it.call(0, 6, y, 0, 9), y == 0 ? 0 : 1);
            told("6 / " + y, it, y == 0 ? ZERO : 0, y == 0 ? 3 : 4, 0, y == 0 ? 4 : -1, 1);
        }
        for (int i = -1; i <= 8; i++) {
            boolean is = i >= 0 && i <= 7;
            CHECKS.same("TABLE " + i, it.call(1, i, 0, 0, 9), is ? 1 : 0);
            told("TABLE " + i, it, is ? 0 : INDEX, is ? 3 : 2, 1, is ? -1 : 2, 1);
        }
    }

    private static void oneStepMore() {
        CHECKS.about("Terms 3", "3 SPENT: one STEP more than told would begin");
        InstrumentFiles it = Samples.read(Samples.rounds(), 5, CHECKS);
        CHECKS.same("1000 STEPS of 1000", it.call(2, 142, 0, 0, 1000), 1);
        told("1000 of 1000", it, 0, 1000, 2, -1, 1);
        CHECKS.same("1000 STEPS of 999", it.call(2, 142, 0, 0, 999), 0);
        told("1000 of 999", it, SPENT, 999, 2, 17, 1);
        CHECKS.same("1001 STEPS of 1000", it.call(3, 142, 0, 0, 1000), 0);
        told("1001 of 1000", it, SPENT, 1000, 3, 18, 1);
        CHECKS.same("999 STEPS of 1000", it.call(1, 142, 0, 0, 1000), 1);
        told("999 of 1000", it, 0, 999, 1, -1, 1);
        CHECKS.same("999 STEPS of 999", it.call(1, 142, 0, 0, 999), 1);
        CHECKS.same("4 STEPS of 4", it.call(0, 0, 0, 0, 4), 1);
        told("4 of 4", it, 0, 4, 0, -1, 1);
        for (int steps = 1; steps <= 3; steps++) {
            CHECKS.same("4 STEPS of " + steps, it.call(0, 0, 0, 0, steps), 0);
            told("4 of " + steps, it, SPENT, steps, 0, new int[] {0, 2, 13, 15}[steps], 1);
            CHECKS.same("result", it.result(), 0);
        }
        InstrumentFiles zero = five();
        CHECKS.same("a STEP that would FAIL does not begin", zero.call(0, 1, 0, 0, 2), 0);
        told("ZERO with one STEP too few", zero, SPENT, 2, 0, 4, 1);
        CHECKS.same("it begins with one more", zero.call(0, 1, 0, 0, 3), 0);
        told("ZERO with the last STEP", zero, ZERO, 3, 0, 4, 1);
    }

    private static void whatWouldBegin() {
        CHECKS.about("Promise 15", "of SPENT the one that would begin");
        InstrumentFiles it = five();
        int[] places = {0, 1, 2, 4, 6, 0, 2, 4, 5, 8};
        for (int steps = 1; steps <= 9; steps++) {
            CHECKS.same("call with STEPS " + steps, it.call(3, 7, 2, 0, steps), 0);
            told("STEPS " + steps, it, SPENT, steps, 3, places[steps], steps < 5 ? 1 : 2);
        }
        CHECKS.same("call with STEPS 10", it.call(3, 7, 2, 0, 10), 1);
        told("STEPS 10", it, 0, 10, 3, -1, 2);
        InstrumentFiles back = Samples.read(Samples.rounds(), 5, CHECKS);
        CHECKS.same("where 19 goes to", back.call(0, 1, 0, 0, 7), 0);
        told("where 19 goes to", back, SPENT, 7, 0, 0, 1);
        CHECKS.same("where 20 goes to", back.call(0, 0, 0, 0, 2), 0);
        told("where 20 goes to", back, SPENT, 2, 0, 13, 1);
    }

    private static void aNinthCall() {
        CHECKS.about("Terms 3", "4 DEEP: a ninth CALL within one another would begin (at 21).");
        InstrumentFiles it = Samples.read(Samples.down(), 1, CHECKS);
        for (int n = 0; n <= 7; n++) {
            CHECKS.same(n + 1 + " CALLS", it.call(0, n, 0, 0, 1000), 1);
            CHECKS.same("result", it.result(), 10 * n);
            told(n + 1 + " CALLS", it, 0, 10 * n + 4, 0, -1, n + 1);
        }
        for (int n = 8; n <= 10; n++) {
            CHECKS.same(n + 1 + " CALLS", it.call(0, n, 0, 0, 1000), 0);
            CHECKS.same("result", it.result(), 0);
            told(n + 1 + " CALLS", it, DEEP, 48, 0, 9, 8);
        }
        CHECKS.same("eight again", it.call(0, 7, 0, 0, 1000), 1);
        InstrumentFiles two = Samples.read(FileRow.of(1).pool(2).word("a").word("b").methods(2)
            .head(0, I, 0, 1).code(21, 1, 22).maps(0).head(1, I, 0, 1).code(0, 0, 21, 0, 22).maps(0), 2, CHECKS);
        CHECKS.same("one calls the other", two.call(0, 0, 0, 0, 1000), 0);
        told("the eighth is METHOD 1", two, DEEP, 4 + 4 * 3, 0, 2, 8);
        CHECKS.same("the other calls the one", two.call(1, 0, 0, 0, 1000), 0);
        told("the eighth is METHOD 0", two, DEEP, 4 + 4 * 3, 1, 0, 8);
    }

    /** CALLS that have given back are not within one another with those that come behind. */
    private static void callsBehindOneAnother() {
        CHECKS.about("Promise 15", "4 how deep CALLS were within one another at most (1: itself alone)");
        int[] code = new int[32];
        for (int i = 0; i < 10; i++) {
            code[3 * i] = 21;
            code[3 * i + 1] = 1;
            code[3 * i + 2] = 6;
        }
        code[29] = 22;
        code[30] = 19;
        code[31] = 30;
        InstrumentFiles it = Samples.read(FileRow.of(1).pool(3).word("a").word("b").anInt(9).methods(2)
            .head(0, I, 0, 1).code(code).maps(1).add(30, 0).head(1, I, 0, 1).code(1, 2, 22).maps(0), 2, CHECKS);
        CHECKS.same("ten CALLS, each behind the other", it.call(0, 0, 0, 0, 1000), 1);
        told("ten CALLS, each behind the other", it, 0, 10 + 20 + 9 + 1, 0, -1, 2);
        CHECKS.same("one alone", it.call(1, 0, 0, 0, 1000), 1);
        told("one alone", it, 0, 2, 1, -1, 1);
    }

    /** Eight CALLS deep, each with a STACK that is full; f(n) = 1 - (2 + (3 - (4 + (5 - f(n - 1))))), and f(0) = 50. */
    private static void fullStacksWithinOneAnother() {
        CHECKS.about("Terms 3", "4 DEEP: a ninth CALL within one another would begin (at 21).");
        FileRow row = FileRow.of(1).pool(7).word("a").anInt(1).anInt(2).anInt(3).anInt(4).anInt(5).anInt(50).methods(1)
            .head(0, I, 6, 6, I)
            .code(3, 0, 20, 31, 3, 0, 1, 1, 8, 4, 0, 1, 1, 1, 2, 1, 3, 1, 4, 1, 5, 3, 0, 21, 0, 8, 7, 8, 7, 8, 22, 1, 6, 22)
            .maps(1).add(31, I, 0, 0, 0, 0, 0, 0);
        InstrumentFiles it = Samples.read(row, 1, CHECKS);
        for (int times = 0; times < 4; times++) {
            for (int n = 0; n <= 7; n++) {
                CHECKS.same(n + 1 + " CALLS", it.call(0, n, 0, 0, 1000), 1);
                CHECKS.same("result", it.result(), n % 2 == 0 ? 50 : 5 - 50);
                CHECKS.same("told(4)", it.told(4), n + 1);
            }
            for (int n = 8; n <= 10; n++) {
                CHECKS.same(n + 1 + " CALLS", it.call(0, n, 0, 0, 1000), 0);
                CHECKS.same("told(0)", it.told(0), DEEP);
            }
        }
    }

    private static void deepOrSpent() {
        CHECKS.about("Terms 3", "3 SPENT: one STEP more than told would begin; 4 DEEP: a ninth CALL within one another "
            + "would begin (at 21).");
        InstrumentFiles it = five();
        int[] steps = {13, 14, 15, 16, 17, 1000};
        int[] failures = {SPENT, SPENT, SPENT, DEEP, DEEP, DEEP};
        int[] done = {13, 14, 15, 16, 16, 16};
        int[] places = {1, 0, 1, 1, 1, 1};
        int[] depths = {7, 8, 8, 8, 8, 8};
        for (int i = 0; i < steps.length; i++) {
            CHECKS.same("call with STEPS " + steps[i], it.call(2, 0, 0, 0, steps[i]), 0);
            told("STEPS " + steps[i], it, failures[i], done[i], 2, places[i], depths[i]);
        }
    }

    private static void asideAtTheThird() {
        CHECKS.about("Terms 3", "One whose CALLS from outside FAILED three times by 1, 2 is ASIDE");
        InstrumentFiles it = five();
        for (int failed = 1; failed <= 3; failed++) {
            CHECKS.same("call", it.call(0, 5, 0, 0, 9), 0);
            CHECKS.same("method(0, 7) at " + failed, it.method(0, 7), failed);
            CHECKS.same("method(0, 8) at " + failed, it.method(0, 8), failed == 3 ? 1 : 0);
            CHECKS.same("a good call at " + failed, it.call(0, 5, 1, 0, 9), failed == 3 ? InstrumentFiles.STATE : 1);
        }
        for (int i = 0; i < 3; i++) {
            CHECKS.same("call of what is ASIDE", it.call(0, 5, 0, 0, 9), InstrumentFiles.STATE);
            CHECKS.same("3 at most", it.method(0, 7), 3);
        }
        for (int m = 1; m < 5; m++) {
            CHECKS.same("method(" + m + ", 7)", it.method(m, 7), 0);
            CHECKS.same("method(" + m + ", 8)", it.method(m, 8), 0);
        }
    }

    private static void asideByZeroAndIndexAlone() {
        CHECKS.about("Terms 3", "FAILED three times by 1, 2");
        InstrumentFiles it = five();
        for (int i = 0; i < 4; i++) {
            CHECKS.same("SPENT", it.call(0, 5, 0, 0, 1), 0);
            CHECKS.same("DEEP", it.call(2, 0, 0, 0, 99), 0);
        }
        CHECKS.same("SPENT is not counted", it.method(0, 7), 0);
        CHECKS.same("DEEP is not counted", it.method(2, 7), 0);
        CHECKS.same("nor ASIDE by SPENT", it.method(0, 8), 0);
        CHECKS.same("nor ASIDE by DEEP", it.method(2, 8), 0);
        // x / y of TABLE x: by ZERO and by INDEX in one METHOD.
        InstrumentFiles both = Samples.read(FileRow.of(1).pool(1).word("a").methods(1).head(0, I, 2, 2, I, I)
            .code(3, 0, 23, 16, 3, 1, 10, 22).maps(0), 1, CHECKS);
        both.call(0, 0, 0, 0, 99);
        told("ZERO", both, ZERO, 5, 0, 6, 1);
        both.call(0, 8, 0, 0, 99);
        told("INDEX", both, INDEX, 2, 0, 2, 1);
        CHECKS.same("two times", both.method(0, 7), 2);
        CHECKS.same("not ASIDE", both.method(0, 8), 0);
        both.call(0, 0, 0, 0, 99);
        CHECKS.same("ASIDE by both", both.method(0, 8), 1);
        CHECKS.same("call", both.call(0, 0, 1, 0, 99), InstrumentFiles.STATE);
        InstrumentFiles index = five();
        for (int i = 1; i <= 3; i++) {
            CHECKS.same("INDEX", index.call(1, -1, 0, 0, 99), 0);
            CHECKS.same("method(1, 7)", index.method(1, 7), i);
        }
        CHECKS.same("ASIDE by INDEX alone", index.call(1, 0, 0, 0, 99), InstrumentFiles.STATE);
    }

    private static void asideOfCallsFromOutside() {
        CHECKS.about("Terms 3", "One whose CALLS from outside FAILED");
        InstrumentFiles it = five();
        for (int i = 1; i <= 3; i++) {
            CHECKS.same("METHOD 3 calls METHOD 0", it.call(3, 5, 0, 0, 99), 0);
            told("the inner one", it, ZERO, 8, 3, 4, 2);
            CHECKS.same("for METHOD 3", it.method(3, 7), i);
            CHECKS.same("not for METHOD 0", it.method(0, 7), 0);
        }
        CHECKS.same("METHOD 3 is ASIDE", it.call(3, 5, 1, 0, 99), InstrumentFiles.STATE);
        CHECKS.same("METHOD 0 is not", it.call(0, 5, 1, 0, 99), 1);
        InstrumentFiles other = five();
        for (int i = 0; i < 3; i++) {
            other.call(0, 5, 0, 0, 99);
        }
        CHECKS.same("METHOD 0 is ASIDE", other.call(0, 5, 1, 0, 99), InstrumentFiles.STATE);
        CHECKS.same("METHOD 3 still calls it", other.call(3, 5, 1, 0, 99), 1);
        CHECKS.same("result", other.result(), 5);
    }

    private static void asideTillTheNextFile() {
        CHECKS.about("Terms 3", "is ASIDE till the next FILE.");
        InstrumentFiles it = five();
        for (int i = 0; i < 3; i++) {
            it.call(0, 5, 0, 0, 99);
        }
        it.call(1, 8, 0, 0, 99);
        CHECKS.same("ASIDE", it.call(0, 5, 1, 0, 99), InstrumentFiles.STATE);
        CHECKS.same("read", it.read(), 5);
        for (int m = 0; m < 5; m++) {
            CHECKS.same("method(" + m + ", 7)", it.method(m, 7), 0);
            CHECKS.same("method(" + m + ", 8)", it.method(m, 8), 0);
        }
        CHECKS.same("call", it.call(0, 5, 1, 0, 99), 1);
        for (int i = 0; i < 3; i++) {
            it.call(0, 5, 0, 0, 99);
        }
        CHECKS.same("ASIDE again", it.call(0, 5, 1, 0, 99), InstrumentFiles.STATE);
        it.alter(0, 1);
        CHECKS.same("read of no FILE", it.read(), -200);
        CHECKS.same("no METHOD", it.method(0, 8), InstrumentFiles.UNKNOWN);
        it.alter(0, 1);
        CHECKS.same("read", it.read(), 5);
        CHECKS.same("not ASIDE", it.method(0, 8), 0);
        CHECKS.same("call", it.call(0, 5, 1, 0, 99), 1);
    }

    /** Gives back the first, the second or the third of what it TAKES. */
    private static InstrumentFiles echoing(int first, int second, int third) {
        FileRow row = FileRow.of(1).pool(3).word("a").word("b").word("c").methods(3);
        int[] kinds = {first, second, third};
        for (int m = 0; m < 3; m++) {
            row.head(m, kinds[m], 3, 1, kinds).code(3, m, 22).maps(0);
        }
        return Samples.read(row, 3, CHECKS);
    }

    private static void echoes(InstrumentFiles it, long given, long due) {
        for (int m = 0; m < 3; m++) {
            CHECKS.same("call with " + given, it.call(m, m == 0 ? given : 3, m == 1 ? given : 3, m == 2 ? given : 3, 2), 1);
            CHECKS.same("result of " + given + " as number " + m, it.result(), due);
        }
    }

    private static void bitsOfAnInt() {
        CHECKS.about("Terms 3", "of an INT itself as a long (given: the lowest 32 bits)");
        InstrumentFiles it = echoing(I, I, I);
        long[] given = {0, 1, -1, Integer.MAX_VALUE, Integer.MIN_VALUE, 0x80000000L, 0xffffffffL, 0x100000000L,
            0x17fffffffL, 0xffffffff00000000L, Long.MIN_VALUE, Long.MAX_VALUE, 0x123456789abcdef0L};
        long[] due = {0, 1, -1, Integer.MAX_VALUE, Integer.MIN_VALUE, Integer.MIN_VALUE, -1, 0, Integer.MAX_VALUE, 0, 0, -1,
            -1698898192};
        for (int i = 0; i < given.length; i++) {
            echoes(it, given[i], due[i]);
        }
    }

    private static void bitsOfADouble() {
        CHECKS.about("Terms 3", "of a DOUBLE its 64 bits (each that is no number 9221120237041090560)");
        long infinity = 0x7ff0000000000000L;
        InstrumentFiles it = echoing(D, D, D);
        for (long bits : new long[] {0, 1, Long.MIN_VALUE, Long.MIN_VALUE + 1, infinity, infinity - 1,
            infinity | Long.MIN_VALUE, (infinity | Long.MIN_VALUE) - 1, 0x3ff0000000000000L, 0x100000000L}) {
            echoes(it, bits, bits);
        }
        for (long bits : new long[] {infinity + 1, NO_NUMBER - 1, NO_NUMBER, NO_NUMBER + 1, Long.MAX_VALUE,
            (infinity | Long.MIN_VALUE) + 1, NO_NUMBER | Long.MIN_VALUE, -1}) {
            echoes(it, bits, NO_NUMBER);
        }
        CHECKS.same("that is these bits", NO_NUMBER, 0x7ff8000000000000L);
    }

    private static void notLookedAt() {
        CHECKS.about("Promise 13", "with BITS (of those that it does not TAKE they are not looked at)");
        InstrumentFiles it = five();
        for (long bits : new long[] {0, 1, -1, Long.MIN_VALUE, Long.MAX_VALUE, NO_NUMBER + 1}) {
            CHECKS.same("TAKES none", it.call(4, bits, bits, bits, 2), 1);
            CHECKS.same("result", it.result(), 6);
            CHECKS.same("TAKES one", it.call(1, 7, bits, bits, 3), 1);
            CHECKS.same("result", it.result(), 0);
            CHECKS.same("TAKES two", it.call(0, 40, 4, bits, 4), 1);
            CHECKS.same("result", it.result(), 10);
        }
    }
}
