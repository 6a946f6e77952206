/** Calls of the whole face in any order, with any arguments: none throws, each answers as Model does. */
public final class AnyCallsTest {
    private static final Checks CHECKS = new Checks("AnyCallsTest");
    private static final int OBJECTS = 1500;
    private static final int MOST_CALLS = 512;
    private static final int[] ODD = {0, 1, -1, 2, -2, 3, 4, 5, 6, 7, 8, 9, 15, 16, 47, 48, 49, 255, 256, 499, 500,
        501, 999, 1000, 1001, Integer.MAX_VALUE, Integer.MIN_VALUE, Integer.MIN_VALUE + 1};

    private final MadeUp madeUp = new MadeUp(5);
    private InstrumentFiles it;
    private Model model;

    public static void main(String[] args) {
        AnyCallsTest test = new AnyCallsTest();
        for (int i = 0; i < OBJECTS; i++) {
            test.oneObject();
        }
        CHECKS.end();
    }

    private void oneObject() {
        it = new InstrumentFiles();
        model = new Model();
        int done = 0;
        while (done < MOST_CALLS) {
            if (madeUp.below(100) == 0 && done < MOST_CALLS - 80) {
                done += feedFile();
            } else {
                anyCall(madeUp.below(16));
                done++;
            }
        }
    }

    private int feedFile() {
        CHECKS.same("wipe", it.wipe(), model.wipe());
        int[] row = madeUp.file();
        int calls = 2;
        for (int at = 0; at < row.length && calls < 70; at += 8) {
            int n = Math.min(8, row.length - at);
            long w = anyLong();
            for (int i = 0; i < n; i++) {
                w = (w << 8) | row[at + i];
            }
            CHECKS.same("feed", it.feed(w, n), model.feed(w, n));
            calls++;
        }
        CHECKS.same("read", it.read(), model.read());
        return calls;
    }

    private int any() {
        return madeUp.below(4) == 0 ? ODD[madeUp.below(ODD.length)] : madeUp.below(12) - 1;
    }

    private long anyLong() {
        long high = any();
        return (high << 32) ^ any() ^ ((long) madeUp.below(1 << 30) << madeUp.below(34));
    }

    private void anyCall(int which) {
        int i = any();
        int j = any();
        int k = any();
        long w = anyLong();
        String of = "(" + i + ", " + j + ", " + k + ", " + w + ")";
        switch (which) {
            case 0 -> CHECKS.same("feed" + of, it.feed(w, i), model.feed(w, i));
            case 1 -> CHECKS.same("alter" + of, it.alter(i, j), model.alter(i, j));
            case 2 -> CHECKS.same("at" + of, it.at(i), model.at(i));
            case 3 -> CHECKS.same("table" + of, it.table(i, w), model.table(i, w));
            case 4 -> CHECKS.same("method" + of, it.method(i, j), model.method(i, j));
            case 5 -> CHECKS.same("pool" + of, it.pool(i, j), model.pool(i, j));
            case 6 -> CHECKS.same("kind" + of, it.kind(i, j, k), model.kind(i, j, k));
            case 7 -> CHECKS.same("fault", it.fault(), model.fault());
            case 8 -> CHECKS.same("result", it.result(), model.result());
            case 9 -> CHECKS.same("told" + of, it.told(i), model.told(i));
            case 10 -> CHECKS.same("count" + of, it.count(i), model.count(i));
            case 11 -> rarely(j);
            default -> CHECKS.same("call" + of, it.call(i, w, j, w, k * 8), model.call(i, w, j, w, k * 8));
        }
    }

    /** What would empty the object too often to leave anything to call. */
    private void rarely(int j) {
        switch (j) {
            case 0 -> CHECKS.same("wipe", it.wipe(), model.wipe());
            case 1, 2 -> CHECKS.same("read", it.read(), model.read());
            case 3 -> CHECKS.same("seal", it.seal(), model.seal());
            default -> CHECKS.same("count", it.count(0), model.count(0));
        }
    }
}
