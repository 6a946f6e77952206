/** Promises 9, 10 and 13 to 16: CALLS, how they FAIL, what is told of them, and when a METHOD is ASIDE. */
public final class CallTest {
    private static final Checks CHECKS = new Checks("CallTest");
    private static final int ZERO = 1, INDEX = 2, SPENT = 3, DEEP = 4;
    private static final int I = FileRow.INT;
    private static final int D = FileRow.DOUBLE;

    public static void main(String[] args) {
        refusals();
        whatIsTaken();
        movesAndJumps();
        failsByZero();
        failsByIndex();
        failsBySpent();
        failsByDeep();
        insideAnother();
        localsOfEachCall();
        whatIsToldStays();
        aside();
        asideByWhatIsInside();
        theTable();
        callsAreCounted();
        CHECKS.end();
    }

    private static InstrumentFiles sound(FileRow row) {
        InstrumentFiles it = FileRow.fed(row.sealed());
        CHECKS.holds("the FILE is sound", it.read() > 0);
        return it;
    }

    private static void told(InstrumentFiles it, int... due) {
        for (int what = 0; what < due.length; what++) {
            CHECKS.same("told(" + what + ")", it.told(what), due[what]);
        }
    }

    private static InstrumentFiles five() {
        return sound(Samples.five());
    }

    private static void refusals() {
        InstrumentFiles it = five();
        for (int m : new int[] {-1, 5, 255, Integer.MIN_VALUE, Integer.MAX_VALUE}) {
            CHECKS.same("call of " + m, it.call(m, 1, 1, 1, 9), InstrumentFiles.UNKNOWN);
            CHECKS.same("call of " + m + ", no STEPS", it.call(m, 1, 1, 1, 0), InstrumentFiles.UNKNOWN);
        }
        for (int steps : new int[] {0, -1, 1001, Integer.MIN_VALUE, Integer.MAX_VALUE}) {
            CHECKS.same("call with STEPS " + steps, it.call(4, 1, 1, 1, steps), InstrumentFiles.OUTSIDE);
        }
        told(it, 0, 0, 0, 0, 0);
        CHECKS.same("no CALLS", it.count(4), 0);
        CHECKS.same("call with STEPS 1000", it.call(4, 1, 1, 1, 1000), 1);
        CHECKS.same("result", it.result(), 6);
        told(it, 0, 2, 4, -1, 1);
        CHECKS.same("told(5)", it.told(5), InstrumentFiles.OUTSIDE);
        CHECKS.same("told(-1)", it.told(-1), InstrumentFiles.OUTSIDE);
        CHECKS.same("told(MAX)", it.told(Integer.MAX_VALUE), InstrumentFiles.OUTSIDE);
    }

    /** Three METHODS that give back the first, second, third of INT, DOUBLE, INT. */
    private static void whatIsTaken() {
        FileRow row = FileRow.of(1).pool(3).word("a").word("b").word("c").methods(3);
        for (int m = 0; m < 3; m++) {
            row.head(m, m == 1 ? D : I, 3, 1, I, D, I).code(3, m, 22).maps(0);
        }
        InstrumentFiles it = sound(row);
        long half = FileRow.bits(0.5);
        long[][] given = {{5, half, 7, 5, half, 7}, {-1, -1, -1, -1, 0x7ff8000000000000L, -1},
            {0xffffffffL, 0, 0x80000000L, -1, 0, Integer.MIN_VALUE},
            {0x100000002L, Long.MIN_VALUE, 0x7fffffff7fffffffL, 2, Long.MIN_VALUE, Integer.MAX_VALUE}};
        for (long[] set : given) {
            for (int m = 0; m < 3; m++) {
                CHECKS.same("call", it.call(m, set[0], set[1], set[2], 2), 1);
                CHECKS.same("item " + m, it.result(), set[3 + m]);
            }
        }
        InstrumentFiles none = five();
        CHECKS.same("what is not taken is not looked at", none.call(4, -1, Long.MIN_VALUE, Long.MAX_VALUE, 2), 1);
        CHECKS.same("result", none.result(), 6);
    }

    /** The sum of 1 to n, by a round with 19 and 20; 4, 5 and 6 on the way. */
    private static void movesAndJumps() {
        InstrumentFiles it = sound(FileRow.of(1).pool(3).word("sum").anInt(1).anInt(0).methods(1)
            .head(0, I, 2, 2, I)
            .code(1, 2, 4, 1, 3, 0, 20, 21, 3, 1, 3, 0, 7, 4, 1, 3, 0, 1, 1, 19, 24, 3, 1, 22, 8, 5, 6, 4, 0, 19, 4)
            .maps(3).add(4, I, I, 0).add(21, 0, I, 0).add(24, I, I, 2, I, I));
        for (int n = 0; n <= 60; n++) {
            CHECKS.same("call", it.call(0, n, 0, 0, 1000), 1);
            CHECKS.same("sum to " + n, it.result(), n * (n + 1) / 2);
            told(it, 0, 2 + 2 + 14 * n + 2, 0, -1, 1);
        }
        CHECKS.same("0 jumps, and nothing else", it.call(0, -1, 0, 0, 1000), 0);
        told(it, SPENT, 1000, 0, it.told(3), 1);
    }

    private static void failsByZero() {
        InstrumentFiles it = five();
        CHECKS.same("7 / 2", it.call(0, 7, 2, 0, 9), 1);
        CHECKS.same("result", it.result(), 3);
        CHECKS.same("-7 / 2", it.call(0, -7, 2, 0, 9), 1);
        CHECKS.same("result", it.result(), -3);
        CHECKS.same("the lowest / -1", it.call(0, Integer.MIN_VALUE, -1, 0, 9), 1);
        CHECKS.same("result", it.result(), Integer.MIN_VALUE);
        CHECKS.same("7 / 0", it.call(0, 7, 0, 0, 9), 0);
        CHECKS.same("result", it.result(), 0);
        told(it, ZERO, 3, 0, 4, 1);
        CHECKS.same("7 / what is 0 in its lowest bits", it.call(0, 7, 1L << 32, 0, 3), 0);
        told(it, ZERO, 3, 0, 4, 1);
        CHECKS.same("7 / 0 with one STEP too few", it.call(0, 7, 0, 0, 2), 0);
        told(it, SPENT, 2, 0, 4, 1);
    }

    private static void failsByIndex() {
        InstrumentFiles it = five();
        for (int i = 0; i < 8; i++) {
            CHECKS.same("call", it.call(1, i, 0, 0, 3), 1);
            CHECKS.same("TABLE " + i + " at first", it.result(), 0);
        }
        CHECKS.same("TABLE 8", it.call(1, 8, 0, 0, 3), 0);
        told(it, INDEX, 2, 1, 2, 1);
        CHECKS.same("TABLE -1", it.call(1, -1, 0, 0, 3), 0);
        told(it, INDEX, 2, 1, 2, 1);
        CHECKS.same("TABLE lowest", it.call(1, 0x80000000L, 0, 0, 2), 0);
        told(it, INDEX, 2, 1, 2, 1);
        CHECKS.same("result", it.result(), 0);
    }

    private static void failsBySpent() {
        InstrumentFiles it = five();
        int[] places = {0, 1, 2, 4, 6, 0, 2, 4, 5, 8};
        int[] depths = {1, 1, 1, 1, 1, 2, 2, 2, 2, 2};
        for (int steps = 1; steps <= 9; steps++) {
            CHECKS.same("call with " + steps, it.call(3, 7, 2, 0, steps), 0);
            told(it, SPENT, steps, 3, places[steps], depths[steps]);
            CHECKS.same("result", it.result(), 0);
        }
        CHECKS.same("call with 10", it.call(3, 7, 2, 0, 10), 1);
        told(it, 0, 10, 3, -1, 2);
        CHECKS.same("result", it.result(), 3);
        CHECKS.same("SPENT does not count", it.method(3, 7), 0);
        CHECKS.same("and puts none ASIDE", it.method(3, 8), 0);
    }

    private static void failsByDeep() {
        InstrumentFiles it = five();
        for (int i = 0; i < 5; i++) {
            CHECKS.same("itself for ever", it.call(2, 0, 0, 0, 1000), 0);
            told(it, DEEP, 16, 2, 1, 8);
        }
        CHECKS.same("DEEP does not count", it.method(2, 7), 0);
        CHECKS.same("and puts none ASIDE", it.method(2, 8), 0);
        CHECKS.same("16 STEPS", it.call(2, 0, 0, 0, 16), 0);
        told(it, DEEP, 16, 2, 1, 8);
        CHECKS.same("15 STEPS", it.call(2, 0, 0, 0, 15), 0);
        told(it, SPENT, 15, 2, 1, 8);
        CHECKS.same("14 STEPS", it.call(2, 0, 0, 0, 14), 0);
        told(it, SPENT, 14, 2, 0, 8);
        CHECKS.same("13 STEPS", it.call(2, 0, 0, 0, 13), 0);
        told(it, SPENT, 13, 2, 1, 7);
        InstrumentFiles down = sound(Samples.down());
        for (int n = 0; n < 8; n++) {
            CHECKS.same("down to " + n, down.call(0, n, 0, 0, 1000), 1);
            CHECKS.same("result", down.result(), 10 * n);
            told(down, 0, n * 10 + 4, 0, -1, n + 1);
        }
        CHECKS.same("down to 8", down.call(0, 8, 0, 0, 1000), 0);
        told(down, DEEP, 8 * 6, 0, 9, 8);
    }

    private static void insideAnother() {
        InstrumentFiles it = five();
        CHECKS.same("fails inside", it.call(3, 7, 0, 0, 1000), 0);
        told(it, ZERO, 8, 3, 4, 2);
        CHECKS.same("it counts for the outer one", it.method(3, 7), 1);
        CHECKS.same("and not for the inner one", it.method(0, 7), 0);
        CHECKS.same("x and y in their order", it.call(3, 7, 2, 0, 1000), 1);
        CHECKS.same("result", it.result(), 3);
        InstrumentFiles mixed = sound(FileRow.of(1).pool(4).word("a").word("b").anInt(100).aDouble(0.25).methods(2)
            .head(0, D, 1, 5, I).code(1, 2, 1, 2, 2, 3, 3, 0, 21, 1, 4, 0, 6, 3, 0, 22).maps(0)
            .head(1, D, 4, 4, I, D, I).code(3, 0, 3, 0, 3, 1, 3, 2, 15, 11, 22).maps(0));
        CHECKS.same("what it TAKES comes off the STACK", mixed.call(0, 3, 0, 0, 99), 1);
        CHECKS.same("result", mixed.result(), FileRow.bits(3.25));
    }

    /** The outer LOCALS and the outer STACK are as they were once the inner CALL has given back. */
    private static void localsOfEachCall() {
        InstrumentFiles it = sound(FileRow.of(1).pool(4).word("a").word("b").anInt(1000).anInt(77).methods(2)
            .head(0, I, 6, 6, I, I).code(3, 0, 3, 1, 3, 0, 3, 1, 21, 1, 7, 7, 3, 0, 7, 3, 1, 7, 22).maps(0)
            .head(1, I, 6, 6, I, I).code(1, 3, 4, 0, 1, 3, 4, 1, 1, 3, 4, 5, 1, 3, 5, 5, 5, 5, 1, 2, 22).maps(0));
        CHECKS.same("call", it.call(0, 1, 20, 0, 1000), 1);
        CHECKS.same("result", it.result(), 1 + 20 + 1 + 20 + 1000);
        CHECKS.same("call again", it.call(0, -1, 5, 0, 1000), 1);
        CHECKS.same("result", it.result(), -1 + 5 - 1 + 5 + 1000);
    }

    private static void whatIsToldStays() {
        InstrumentFiles it = five();
        it.call(0, 7, 0, 0, 9);
        CHECKS.same("a CALL of none", it.call(9, 0, 0, 0, 9), InstrumentFiles.UNKNOWN);
        CHECKS.same("a CALL with no STEPS", it.call(4, 0, 0, 0, 0), InstrumentFiles.OUTSIDE);
        told(it, ZERO, 3, 0, 4, 1);
        CHECKS.same("a good CALL", it.call(4, 0, 0, 0, 9), 1);
        CHECKS.same("read", it.read(), 5);
        told(it, 0, 2, 4, -1, 1);
        CHECKS.same("result", it.result(), 6);
        it.wipe();
        CHECKS.same("read of nothing", it.read(), -200);
        told(it, 0, 2, 4, -1, 1);
        CHECKS.same("result", it.result(), 6);
    }

    private static void aside() {
        InstrumentFiles it = five();
        for (int i = 1; i <= 3; i++) {
            CHECKS.same("not ASIDE", it.method(0, 8), 0);
            CHECKS.same("call", it.call(0, 7, 0, 0, 9), 0);
            CHECKS.same("failed", it.method(0, 7), i);
            if (i < 3) {
                CHECKS.same("one that does not fail", it.call(0, 7, 1, 0, 9), 1);
                CHECKS.same("failed", it.method(0, 7), i);
            }
        }
        CHECKS.same("ASIDE", it.method(0, 8), 1);
        CHECKS.same("CALLS", it.count(4), 5);
        CHECKS.same("call of what is ASIDE", it.call(0, 7, 1, 0, 9), InstrumentFiles.STATE);
        CHECKS.same("with no STEPS", it.call(0, 7, 1, 0, 0), InstrumentFiles.OUTSIDE);
        CHECKS.same("CALLS", it.count(4), 5);
        told(it, ZERO, 3, 0, 4, 1);
        CHECKS.same("it is called inside all the same", it.call(3, 7, 2, 0, 99), 1);
        CHECKS.same("result", it.result(), 3);
        CHECKS.same("the others are not ASIDE", it.method(1, 8), 0);
        CHECKS.same("read", it.read(), 5);
        CHECKS.same("not ASIDE any more", it.method(0, 8), 0);
        CHECKS.same("failed", it.method(0, 7), 0);
        CHECKS.same("call", it.call(0, 7, 1, 0, 9), 1);
    }

    private static void asideByWhatIsInside() {
        InstrumentFiles it = five();
        CHECKS.same("ZERO inside", it.call(3, 1, 0, 0, 99), 0);
        CHECKS.same("ZERO inside", it.call(3, 1, 0, 0, 99), 0);
        CHECKS.same("SPENT between", it.call(3, 1, 0, 0, 5), 0);
        CHECKS.same("ZERO inside", it.call(3, 1, 0, 0, 99), 0);
        CHECKS.same("ASIDE", it.call(3, 1, 1, 0, 99), InstrumentFiles.STATE);
        CHECKS.same("the inner one is not", it.call(0, 1, 1, 0, 99), 1);
        for (int i = 0; i < 3; i++) {
            CHECKS.same("INDEX", it.call(1, 8, 0, 0, 99), 0);
        }
        CHECKS.same("ASIDE", it.call(1, 1, 0, 0, 99), InstrumentFiles.STATE);
    }

    private static void theTable() {
        InstrumentFiles it = five();
        for (int i = 0; i < 8; i++) {
            CHECKS.same("table(" + i + ")", it.table(i, FileRow.bits(i + 0.5)), 1);
        }
        for (int i : new int[] {-1, 8, Integer.MIN_VALUE, Integer.MAX_VALUE}) {
            CHECKS.same("table(" + i + ")", it.table(i, 1), InstrumentFiles.UNKNOWN);
        }
        it.read();
        for (int i = 0; i < 8; i++) {
            CHECKS.same("call", it.call(1, i, 0, 0, 3), 1);
            CHECKS.same("TABLE " + i + " stays over read", it.result(), FileRow.bits(i + 0.5));
        }
        CHECKS.same("table again", it.table(0, Long.MIN_VALUE), 1);
        CHECKS.same("call", it.call(1, 0, 0, 0, 3), 1);
        CHECKS.same("-0.0", it.result(), Long.MIN_VALUE);
        InstrumentFiles before = new InstrumentFiles();
        CHECKS.same("table without a FILE", before.table(7, 1), 1);
    }

    private static void callsAreCounted() {
        InstrumentFiles it = five();
        it.call(4, 0, 0, 0, 9);
        it.call(0, 7, 0, 0, 9);
        it.call(2, 0, 0, 0, 9);
        it.call(3, 7, 2, 0, 99);
        CHECKS.same("CALLS from outside", it.count(4), 4);
        it.read();
        CHECKS.same("none since read", it.count(4), 0);
    }
}
