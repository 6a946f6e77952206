import java.util.function.Supplier;
import java.util.function.ToLongFunction;

/**
 * Terms 3: "Answers below -100, the first that fits; nothing changes then". Two objects live through the same calls;
 * one is then refused, the other not, and from there on both must tell the same of everything.
 */
public final class RefusedTest {
    private static final Checks CHECKS = new Checks("RefusedTest");
    private static final int UNKNOWN = InstrumentFiles.UNKNOWN;
    private static final int OUTSIDE = InstrumentFiles.OUTSIDE;
    private static final int STATE = InstrumentFiles.STATE;
    private static final int FULL = InstrumentFiles.FULL;
    private static final int MIN = Integer.MIN_VALUE;
    private static final int MAX = Integer.MAX_VALUE;

    /** So many bytes are looked at that no object is used for more calls than the document allows. */
    private static final int MOST_BYTES = 250;

    public static void main(String[] args) {
        theFirstThatFits();
        feeding();
        altering();
        looking();
        sealing();
        tables();
        methods();
        pools();
        kinds();
        calls();
        tellingAndCounting();
        CHECKS.end();
    }

    /** METHOD 0 is ASIDE, METHOD 1 FAILED once, TABLE is set, and THE TAPE has grown behind the FILE. */
    private static InstrumentFiles lived() {
        InstrumentFiles it = Samples.read(Samples.five(), 5, CHECKS);
        for (int i = 0; i < 8; i++) {
            it.table(i, FileRow.bits(i + 0.25));
        }
        for (int i = 0; i < 3; i++) {
            it.call(0, 9, 0, 0, 9);
        }
        it.call(1, 8, 0, 0, 9);
        it.call(3, 9, 2, 0, 9);
        it.feed(0x0a0b0c, 3);
        return it;
    }

    /** The latest read() had a FAULT. */
    private static InstrumentFiles faulty() {
        InstrumentFiles it = lived();
        it.alter(2, 4);
        it.read();
        return it;
    }

    private static InstrumentFiles wiped() {
        InstrumentFiles it = lived();
        it.wipe();
        return it;
    }

    private static InstrumentFiles full() {
        InstrumentFiles it = lived();
        for (int length = it.count(0); length < 493; length += 8) {
            it.feed(0x5555555555555555L, Math.min(8, 493 - length));
        }
        CHECKS.same("THE TAPE is full", it.feed(0x66666666666666L, 7), 500);
        return it;
    }

    private static void refused(String call, Supplier<InstrumentFiles> made, ToLongFunction<InstrumentFiles> asked,
            int due) {
        InstrumentFiles it = made.get();
        InstrumentFiles other = made.get();
        CHECKS.same(call, asked.applyAsLong(it), due);
        CHECKS.same(call + ", again", asked.applyAsLong(it), due);
        alike(call, it, other);
    }

    private static void ofAll(String call, ToLongFunction<InstrumentFiles> asked, int due) {
        refused(call, RefusedTest::lived, asked, due);
        refused(call, RefusedTest::wiped, asked, due);
    }

    private static void alike(String call, InstrumentFiles it, InstrumentFiles other) {
        String after = " after " + call;
        CHECKS.same("result" + after, it.result(), other.result());
        CHECKS.same("fault" + after, it.fault(), other.fault());
        for (int what = 0; what <= 4; what++) {
            CHECKS.same("count(" + what + ")" + after, it.count(what), other.count(what));
            CHECKS.same("told(" + what + ")" + after, it.told(what), other.told(what));
        }
        for (int m = 0; m < 5; m++) {
            for (int what = 0; what <= 8; what++) {
                CHECKS.same("method(" + m + ", " + what + ")" + after, it.method(m, what), other.method(m, what));
            }
            for (int place = 0; place < 3; place++) {
                CHECKS.same("kind(" + m + ", " + place + ", 0)" + after, it.kind(m, place, 0), other.kind(m, place, 0));
                CHECKS.same("kind(" + m + ", " + place + ", -1)" + after, it.kind(m, place, -1), other.kind(m, place, -1));
            }
        }
        for (int e = 0; e < 6; e++) {
            CHECKS.same("pool(" + e + ", 0)" + after, it.pool(e, 0), other.pool(e, 0));
            CHECKS.same("pool(" + e + ", 1)" + after, it.pool(e, 1), other.pool(e, 1));
        }
        tapesAlike(after, it, other);
        for (int i = 0; i < 8; i++) {
            CHECKS.same("call(1, " + i + ", ..)" + after, it.call(1, i, 0, 0, 9), other.call(1, i, 0, 0, 9));
            CHECKS.same("TABLE " + i + after, it.result(), other.result());
        }
        for (int m = 0; m < 5; m++) {
            CHECKS.same("call(" + m + ", ..)" + after, it.call(m, 8, 0, 0, 900), other.call(m, 8, 0, 0, 900));
            CHECKS.same("told(1)" + after, it.told(1), other.told(1));
        }
        CHECKS.same("seal" + after, it.seal(), other.seal());
        CHECKS.same("read" + after, it.read(), other.read());
        CHECKS.same("feed" + after, it.feed(7, 1), other.feed(7, 1));
        CHECKS.same("wipe" + after, it.wipe(), other.wipe());
    }

    private static void tapesAlike(String after, InstrumentFiles it, InstrumentFiles other) {
        int length = other.count(0);
        for (int i = Math.max(-1, length - MOST_BYTES); i <= length; i++) {
            CHECKS.same("at(" + i + ")" + after, it.at(i), other.at(i));
        }
    }

    /** Calls of which two answers, or three, would tell the truth. */
    private static void theFirstThatFits() {
        CHECKS.about("Terms 3", "the first that fits; nothing changes then: UNKNOWN (no such METHOD, entry, place), OUTSIDE "
            + "(a number is not as told), STATE (as told), FULL.");
        refused("feed: OUTSIDE, FULL", RefusedTest::full, it -> it.feed(-1, 9), OUTSIDE);
        refused("alter: UNKNOWN, OUTSIDE", RefusedTest::full, it -> it.alter(500, 256), UNKNOWN);
        refused("method: UNKNOWN, OUTSIDE", RefusedTest::lived, it -> it.method(5, 9), UNKNOWN);
        refused("pool: UNKNOWN, OUTSIDE", RefusedTest::lived, it -> it.pool(6, 2), UNKNOWN);
        refused("kind: UNKNOWN of the METHOD, OUTSIDE", RefusedTest::lived, it -> it.kind(5, 0, 6), UNKNOWN);
        refused("kind: UNKNOWN of the place, OUTSIDE", RefusedTest::lived, it -> it.kind(0, 1, 6), UNKNOWN);
        refused("call: UNKNOWN, OUTSIDE", RefusedTest::lived, it -> it.call(5, 0, 0, 0, 0), UNKNOWN);
        refused("call: OUTSIDE, STATE", RefusedTest::lived, it -> it.call(0, 9, 1, 0, 1001), OUTSIDE);
        refused("call: STATE, or else it would FAIL", RefusedTest::lived, it -> it.call(0, 9, 0, 0, 1000), STATE);
    }

    private static void feeding() {
        CHECKS.about("Promise 2", "OUTSIDE: n is not 1 .. 8; FULL.");
        for (int n : new int[] {0, 9, -1, MIN, MAX}) {
            ofAll("feed(-1, " + n + ")", it -> it.feed(-1, n), OUTSIDE);
            refused("feed(-1, " + n + ")", RefusedTest::full, it -> it.feed(-1, n), OUTSIDE);
        }
        for (int n : new int[] {1, 2, 8}) {
            refused("feed(-1, " + n + ")", RefusedTest::full, it -> it.feed(-1, n), FULL);
        }
    }

    private static void altering() {
        CHECKS.about("Promise 4", "UNKNOWN; OUTSIDE.");
        for (int i : new int[] {-1, 499, 500, MIN, MAX}) {
            ofAll("alter(" + i + ", 1)", it -> it.alter(i, 1), UNKNOWN);
            ofAll("alter(" + i + ", 256)", it -> it.alter(i, 256), UNKNOWN);
        }
        for (int mask : new int[] {-1, 256, MIN, MAX}) {
            refused("alter(0, " + mask + ")", RefusedTest::lived, it -> it.alter(0, mask), OUTSIDE);
            refused("alter(499, " + mask + ")", RefusedTest::full, it -> it.alter(499, mask), OUTSIDE);
            refused("alter(0, " + mask + ")", RefusedTest::wiped, it -> it.alter(0, mask), UNKNOWN);
        }
        refused("alter behind the last", RefusedTest::lived, it -> it.alter(it.count(0), 255), UNKNOWN);
        refused("alter(500, 255)", RefusedTest::full, it -> it.alter(500, 255), UNKNOWN);
    }

    private static void looking() {
        CHECKS.about("Promise 5", "A byte of THE TAPE. UNKNOWN.");
        for (int i : new int[] {-1, 499, 500, MIN, MAX}) {
            ofAll("at(" + i + ")", it -> it.at(i), UNKNOWN);
        }
        refused("at behind the last", RefusedTest::lived, it -> it.at(it.count(0)), UNKNOWN);
        refused("at(500)", RefusedTest::full, it -> it.at(500), UNKNOWN);
    }

    private static void sealing() {
        CHECKS.about("Promise 6", "STATE: it is empty.");
        refused("seal", RefusedTest::wiped, InstrumentFiles::seal, STATE);
        refused("seal", InstrumentFiles::new, InstrumentFiles::seal, STATE);
    }

    private static void tables() {
        CHECKS.about("Promise 9", "UNKNOWN.");
        for (int i : new int[] {-1, 8, MIN, MAX}) {
            ofAll("table(" + i + ", ..)", it -> it.table(i, FileRow.bits(99)), UNKNOWN);
        }
    }

    private static void methods() {
        CHECKS.about("Promise 10", "UNKNOWN; OUTSIDE.");
        for (int what : new int[] {-1, 9, MIN, MAX}) {
            ofAll("method(0, " + what + ")", it -> it.method(0, what), OUTSIDE);
            ofAll("method(5, " + what + ")", it -> it.method(5, what), UNKNOWN);
            ofAll("method(-1, " + what + ")", it -> it.method(-1, what), UNKNOWN);
            refused("method(0, " + what + ")", RefusedTest::faulty, it -> it.method(0, what), UNKNOWN);
            refused("method(0, " + what + ")", InstrumentFiles::new, it -> it.method(0, what), UNKNOWN);
        }
    }

    private static void pools() {
        CHECKS.about("Promise 11", "UNKNOWN; OUTSIDE.");
        for (int what : new int[] {-1, 2, MIN, MAX}) {
            ofAll("pool(0, " + what + ")", it -> it.pool(0, what), OUTSIDE);
            ofAll("pool(6, " + what + ")", it -> it.pool(6, what), UNKNOWN);
            ofAll("pool(-1, " + what + ")", it -> it.pool(-1, what), UNKNOWN);
            refused("pool(0, " + what + ")", RefusedTest::faulty, it -> it.pool(0, what), UNKNOWN);
            refused("pool(0, " + what + ")", InstrumentFiles::new, it -> it.pool(0, what), UNKNOWN);
        }
    }

    private static void kinds() {
        CHECKS.about("Promise 12", "UNKNOWN: METHOD; no OP begins there; OUTSIDE: no such LOCAL, k above 5.");
        for (int k : new int[] {6, MAX, -3, -7, MIN}) {
            ofAll("kind(0, 0, " + k + ")", it -> it.kind(0, 0, k), OUTSIDE);
            ofAll("kind(0, 1, " + k + ")", it -> it.kind(0, 1, k), UNKNOWN);
            ofAll("kind(0, 6, " + k + ")", it -> it.kind(0, 6, k), UNKNOWN);
            ofAll("kind(5, 0, " + k + ")", it -> it.kind(5, 0, k), UNKNOWN);
            refused("kind(0, 0, " + k + ")", RefusedTest::faulty, it -> it.kind(0, 0, k), UNKNOWN);
        }
    }

    private static void calls() {
        CHECKS.about("Promise 13", "UNKNOWN; OUTSIDE; STATE: it is ASIDE.");
        for (int steps : new int[] {0, 1001, -1, MIN, MAX}) {
            ofAll("call(4, .. " + steps + ")", it -> it.call(4, 1, 1, 1, steps), OUTSIDE);
            ofAll("call of what is ASIDE, STEPS " + steps, it -> it.call(0, 1, 1, 1, steps), OUTSIDE);
            ofAll("call(5, .. " + steps + ")", it -> it.call(5, 1, 1, 1, steps), UNKNOWN);
        }
        for (int steps : new int[] {1, 1000}) {
            ofAll("call of what is ASIDE, STEPS " + steps, it -> it.call(0, 1, 1, 1, steps), STATE);
            ofAll("call of what is ASIDE, with 0", it -> it.call(0, 1, 0, 1, steps), STATE);
            for (int m : new int[] {-1, 5, MIN, MAX}) {
                ofAll("call(" + m + ", .. " + steps + ")", it -> it.call(m, 1, 1, 1, steps), UNKNOWN);
            }
            refused("call without a FILE", RefusedTest::faulty, it -> it.call(4, 1, 1, 1, steps), UNKNOWN);
            refused("call of a new object", InstrumentFiles::new, it -> it.call(0, 1, 1, 1, steps), UNKNOWN);
        }
    }

    private static void tellingAndCounting() {
        CHECKS.about("Terms 3", "Answers below -100, the first that fits; nothing changes then");
        for (int what : new int[] {-1, 5, MIN, MAX}) {
            ofAll("told(" + what + ")", it -> it.told(what), OUTSIDE);
            ofAll("count(" + what + ")", it -> it.count(what), OUTSIDE);
            refused("told(" + what + ")", InstrumentFiles::new, it -> it.told(what), OUTSIDE);
            refused("count(" + what + ")", InstrumentFiles::new, it -> it.count(what), OUTSIDE);
        }
    }
}
