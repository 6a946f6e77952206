import java.util.ArrayList;
import java.util.Arrays;
import java.util.List;

/** Made-up FILES, sound and spoiled, and random calls: each answer against that of Model. */
public final class ModelTest {
    private static final Checks CHECKS = new Checks("ModelTest");
    private static final int FILES = 12000;
    private static final long[] ARGUMENTS = {0, 1, -1, 2, 3, 7, 8, 100, Integer.MIN_VALUE, Integer.MAX_VALUE,
        0x100000005L, FileRow.bits(1), FileRow.bits(-2.5), FileRow.bits(0.1), FileRow.bits(1e300), Long.MIN_VALUE,
        FileRow.bits(Double.POSITIVE_INFINITY), FileRow.bits(Double.NaN), -1L, FileRow.bits(3), FileRow.bits(5.75)};

    private final MadeUp madeUp = new MadeUp(77);
    private InstrumentFiles it;
    private Model model;
    private int soundFiles;
    private final int[] faults = new int[19];
    private final int[] failures = new int[5];

    public static void main(String[] args) {
        ModelTest test = new ModelTest();
        for (int i = 0; i < FILES; i++) {
            test.oneObject(i);
        }
        test.reachesAll();
        CHECKS.end();
    }

    private void oneObject(int i) {
        it = new InstrumentFiles();
        model = new Model();
        for (int round = 0; round < 2; round++) {
            CHECKS.same("wipe", it.wipe(), model.wipe());
            feed(madeUp.file());
            if (i % 3 == 1) {
                spoil(true);
            } else if (i % 9 == 2) {
                spoil(false);
            }
            read();
            ask();
            calls();
        }
    }

    private void feed(int[] row) {
        for (int value : row) {
            CHECKS.same("feed", it.feed(value, 1), model.feed(value, 1));
        }
    }

    private void spoil(boolean sealed) {
        for (int n = madeUp.below(3); n >= 0; n--) {
            int i = madeUp.below(model.tape.size());
            int mask = madeUp.below(2) == 0 ? 1 << madeUp.below(8) : madeUp.below(32);
            CHECKS.same("alter", it.alter(i, mask), model.alter(i, mask));
        }
        if (!sealed && madeUp.below(4) == 0) {
            feed(new int[] {madeUp.below(256)});
        }
        if (sealed) {
            CHECKS.same("seal", it.seal(), model.seal());
        }
    }

    private void read() {
        int due = model.read();
        CHECKS.same("read of " + model.tape, it.read(), due);
        CHECKS.same("fault", it.fault(), model.fault());
        faults[model.fault()]++;
        soundFiles += due > 0 ? 1 : 0;
    }

    private void ask() {
        for (int what = -1; what <= 5; what++) {
            CHECKS.same("count " + what, it.count(what), model.count(what));
        }
        for (int m = 0; m <= model.count(1); m++) {
            for (int what = 0; what <= 9; what++) {
                CHECKS.same("method " + m + ", " + what, it.method(m, what), model.method(m, what));
            }
        }
        for (int e = 0; e <= model.count(2); e++) {
            for (int what = 0; what <= 2; what++) {
                CHECKS.same("pool " + e + ", " + what, it.pool(e, what), model.pool(e, what));
            }
        }
        if (model.count(1) > 0) {
            for (int m = 0; m <= model.count(1); m++) {
                int place = madeUp.below(50) - 1;
                for (int k = -8; k <= 7; k++) {
                    CHECKS.same("kind " + m + ", " + place + ", " + k, it.kind(m, place, k), model.kind(m, place, k));
                }
            }
        }
    }

    private void calls() {
        int methods = model.count(1);
        for (int n = 0; n < (methods == 0 ? 1 : 12); n++) {
            int i = madeUp.below(9);
            long bits = argument();
            CHECKS.same("table", it.table(i, bits), model.table(i, bits));
            int m = madeUp.below(methods + (madeUp.below(20) == 0 ? 1 : 0));
            long a = argument();
            long b = argument();
            long c = argument();
            int steps = madeUp.below(4) == 0 ? madeUp.below(30) : madeUp.below(1001);
            int due = model.call(m, a, b, c, steps);
            CHECKS.same("call of " + m + " of " + model.tape, it.call(m, a, b, c, steps), due);
            CHECKS.same("result", it.result(), model.result());
            for (int what = 0; what <= 4; what++) {
                CHECKS.same("told " + what, it.told(what), model.told(what));
            }
            if (due == 0) {
                CHECKS.same("failed", it.method(m, 7), model.method(m, 7));
            }
            failures[model.told(0)]++;
        }
    }

    private long argument() {
        return ARGUMENTS[madeUp.below(ARGUMENTS.length)];
    }

    /** That the comparison compares something: sound FILES, and each FAULT and FAILURE. */
    private void reachesAll() {
        List<Integer> missed = new ArrayList<>();
        for (int fault = 1; fault < faults.length; fault++) {
            if (faults[fault] == 0) {
                missed.add(fault);
            }
        }
        for (int failure = 0; failure < failures.length; failure++) {
            if (failures[failure] == 0) {
                missed.add(-failure);
            }
        }
        System.out.println("ModelTest: " + soundFiles + " sound FILES; FAULTS " + Arrays.toString(faults)
            + "; FAILURES " + Arrays.toString(failures));
        CHECKS.holds("each FAULT and FAILURE comes up, but for " + missed, missed.isEmpty());
        CHECKS.holds("enough are sound", soundFiles > FILES / 3);
    }
}
