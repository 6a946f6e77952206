/** FILES that more than one test reads. */
final class Samples {
    private static final int I = FileRow.INT;
    private static final int D = FileRow.DOUBLE;

    private Samples() {
    }

    /** METHOD 0: x / y; METHOD 1: TABLE x; METHOD 2: itself for ever; METHOD 3: METHOD 0 of x, y; METHOD 4: 6. */
    static FileRow five() {
        return FileRow.of(1).pool(6).word("a").word("b").word("c").word("d").word("e").anInt(6).methods(5)
            .head(0, I, 2, 2, I, I).code(3, 0, 3, 1, 10, 22).maps(0)
            .head(1, D, 1, 1, I).code(3, 0, 23, 22).maps(0)
            .head(2, I, 0, 1).code(0, 21, 2, 22).maps(0)
            .head(3, I, 2, 2, I, I).code(0, 0, 3, 0, 3, 1, 21, 0, 22).maps(0)
            .head(4, I, 0, 1).code(1, 5, 22).maps(0);
    }

    /** n > 0 ? itself of n - 1, and 10 more : 0; n + 1 CALLS within one another, 10 n + 4 STEPS. */
    static FileRow down() {
        return FileRow.of(1).pool(4).word("down").anInt(1).anInt(10).anInt(0).methods(1)
            .head(0, I, 1, 2, I)
            .code(3, 0, 20, 16, 3, 0, 1, 1, 8, 21, 0, 1, 2, 7, 0, 22, 1, 3, 22)
            .maps(1).add(16, I, 0);
    }

    /** METHOD m, for m 0 to 4, gives 1 after 7 n + 4 + m STEPS, n being what it TAKES. */
    static FileRow rounds() {
        FileRow row = FileRow.of(1).pool(6).anInt(1).word("a").word("b").word("c").word("d").word("e").methods(5);
        for (int m = 0; m < 5; m++) {
            int[] code = new int[m + 16];
            int[] round = {3, 0, 20, m + 13, 3, 0, 1, 0, 8, 4, 0, 19, m, 1, 0, 22};
            System.arraycopy(round, 0, code, m, round.length);
            row.head(m + 1, I, 1, 2, I).code(code).maps(2).add(m, I, 0).add(m + 13, I, 0);
        }
        return row;
    }

    static InstrumentFiles read(FileRow row, int methods, Checks checks) {
        InstrumentFiles it = FileRow.fed(row.sealed());
        checks.same("read of a sound FILE", it.read(), methods);
        return it;
    }
}
