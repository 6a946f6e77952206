/** Promises 1 to 6, and what count tells of THE TAPE. */
public final class TapeTest {
    private static final Checks CHECKS = new Checks("TapeTest");

    public static void main(String[] args) {
        aNewObject();
        constants();
        feedInOrder();
        feedRefused();
        feedUpToTheRoom();
        wipe();
        alterAndAt();
        seal();
        CHECKS.end();
    }

    private static void aNewObject() {
        InstrumentFiles it = new InstrumentFiles();
        for (int what = 0; what <= 4; what++) {
            CHECKS.same("count(" + what + ") of a new object", it.count(what), 0);
            CHECKS.same("told(" + what + ") of a new object", it.told(what), 0);
        }
        CHECKS.same("fault of a new object", it.fault(), 0);
        CHECKS.same("result of a new object", it.result(), 0);
        CHECKS.same("seal of a new object", it.seal(), InstrumentFiles.STATE);
        CHECKS.same("at of a new object", it.at(0), InstrumentFiles.UNKNOWN);
        CHECKS.same("method of a new object", it.method(0, 99), InstrumentFiles.UNKNOWN);
        CHECKS.same("pool of a new object", it.pool(0, 99), InstrumentFiles.UNKNOWN);
        CHECKS.same("kind of a new object", it.kind(0, 0, 99), InstrumentFiles.UNKNOWN);
        CHECKS.same("call of a new object", it.call(0, 0, 0, 0, 0), InstrumentFiles.UNKNOWN);
        CHECKS.same("wipe of a new object", it.wipe(), 0);
        CHECKS.same("read of a new object", it.read(), -200);
        CHECKS.same("fault then", it.fault(), 1);
    }

    private static void constants() {
        CHECKS.same("NONE", InstrumentFiles.NONE, -1);
        CHECKS.same("UNKNOWN", InstrumentFiles.UNKNOWN, -101);
        CHECKS.same("OUTSIDE", InstrumentFiles.OUTSIDE, -102);
        CHECKS.same("STATE", InstrumentFiles.STATE, -103);
        CHECKS.same("FULL", InstrumentFiles.FULL, -104);
    }

    private static void feedInOrder() {
        long w = 0x8192a3b4c5d6e7f8L;
        for (int n = 1; n <= 8; n++) {
            InstrumentFiles it = new InstrumentFiles();
            CHECKS.same("feed of " + n, it.feed(w, n), n);
            CHECKS.same("feed of " + n + " again", it.feed(w, n), 2 * n);
            for (int i = 0; i < 2 * n; i++) {
                long due = (w >>> (8 * (n - 1 - i % n))) & 255;
                CHECKS.same("byte " + i + " of feed of " + n, it.at(i), due);
            }
            CHECKS.same("count", it.count(0), 2 * n);
        }
    }

    private static void feedRefused() {
        InstrumentFiles it = new InstrumentFiles();
        for (int n : new int[] {0, 9, -1, 64, Integer.MIN_VALUE, Integer.MAX_VALUE}) {
            CHECKS.same("feed(7, " + n + ")", it.feed(7, n), InstrumentFiles.OUTSIDE);
        }
        CHECKS.same("count after them", it.count(0), 0);
    }

    private static void feedUpToTheRoom() {
        InstrumentFiles it = new InstrumentFiles();
        for (int i = 1; i <= 62; i++) {
            CHECKS.same("feed", it.feed(-1, 8), 8 * i);
        }
        CHECKS.same("496 and 5", it.feed(0, 5), InstrumentFiles.FULL);
        CHECKS.same("496 and 8", it.feed(0, 8), InstrumentFiles.FULL);
        CHECKS.same("496 and 9", it.feed(0, 9), InstrumentFiles.OUTSIDE);
        CHECKS.same("nothing has changed", it.count(0), 496);
        CHECKS.same("496 and 4", it.feed(0x01020304, 4), 500);
        CHECKS.same("the last", it.at(499), 4);
        CHECKS.same("behind the last", it.at(500), InstrumentFiles.UNKNOWN);
        CHECKS.same("500 and 1", it.feed(0, 1), InstrumentFiles.FULL);
        CHECKS.same("500 and 0", it.feed(0, 0), InstrumentFiles.OUTSIDE);
        CHECKS.same("seal of 500", it.seal(), (496 * 255 + 1 + 2 + 3) % 256);
        CHECKS.same("wipe of 500", it.wipe(), 500);
        CHECKS.same("there is room again", it.feed(0, 8), 8);
    }

    private static void wipe() {
        InstrumentFiles it = FileRow.fed(1, 2, 3);
        CHECKS.same("wipe of 3", it.wipe(), 3);
        CHECKS.same("count then", it.count(0), 0);
        CHECKS.same("at(0) then", it.at(0), InstrumentFiles.UNKNOWN);
        CHECKS.same("alter(0, 0) then", it.alter(0, 0), InstrumentFiles.UNKNOWN);
        CHECKS.same("wipe again", it.wipe(), 0);
        CHECKS.same("feed then", it.feed(9, 1), 1);
        CHECKS.same("at(0) is the new one", it.at(0), 9);
    }

    private static void alterAndAt() {
        InstrumentFiles it = FileRow.fed(1, 2, 3);
        CHECKS.same("alter(2, 255)", it.alter(2, 255), 252);
        CHECKS.same("at(2)", it.at(2), 252);
        CHECKS.same("alter(2, 255) again", it.alter(2, 255), 3);
        CHECKS.same("alter(0, 0)", it.alter(0, 0), 1);
        CHECKS.same("alter(1, 3)", it.alter(1, 3), 1);
        for (int i : new int[] {-1, 3, 500, Integer.MIN_VALUE, Integer.MAX_VALUE}) {
            CHECKS.same("at(" + i + ")", it.at(i), InstrumentFiles.UNKNOWN);
            CHECKS.same("alter(" + i + ", 1)", it.alter(i, 1), InstrumentFiles.UNKNOWN);
            CHECKS.same("alter(" + i + ", 256)", it.alter(i, 256), InstrumentFiles.UNKNOWN);
        }
        for (int mask : new int[] {-1, 256, Integer.MIN_VALUE, Integer.MAX_VALUE}) {
            CHECKS.same("alter(0, " + mask + ")", it.alter(0, mask), InstrumentFiles.OUTSIDE);
        }
        CHECKS.same("at(0)", it.at(0), 1);
        CHECKS.same("at(1)", it.at(1), 1);
        CHECKS.same("at(2)", it.at(2), 3);
    }

    private static void seal() {
        InstrumentFiles it = FileRow.fed(200, 100, 7);
        CHECKS.same("seal", it.seal(), 44);
        CHECKS.same("at(2)", it.at(2), 44);
        CHECKS.same("seal again", it.seal(), 44);
        CHECKS.same("at(0)", it.at(0), 200);
        InstrumentFiles one = FileRow.fed(200);
        CHECKS.same("seal of one byte", one.seal(), 0);
        CHECKS.same("which stays one", one.count(0), 1);
        one.wipe();
        CHECKS.same("seal when wiped", one.seal(), InstrumentFiles.STATE);
    }
}
