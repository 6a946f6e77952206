import java.util.Arrays;

/** Each bound that one of the sixteen promises names itself; what Terms name is in the other Edges tests. */
public final class EdgesOfPromisesTest {
    private static final Checks CHECKS = new Checks("EdgesOfPromisesTest");
    private static final int UNKNOWN = InstrumentFiles.UNKNOWN;
    private static final int OUTSIDE = InstrumentFiles.OUTSIDE;
    private static final int STATE = InstrumentFiles.STATE;
    private static final int FULL = InstrumentFiles.FULL;
    private static final int MIN = Integer.MIN_VALUE;
    private static final int MAX = Integer.MAX_VALUE;
    private static final int I = FileRow.INT;
    private static final int D = FileRow.DOUBLE;
    private static final long NO_NUMBER = 9221120237041090560L;
    private static final long HALF = FileRow.bits(0.5);

    public static void main(String[] args) {
        constants();
        fiveHundredAndTwelveCalls();
        aNewObject();
        feedLowestBytes();
        feedFiveHundredAtMost();
        feedOutside();
        wipe();
        alter();
        at();
        seal();
        readAnswers();
        readTheTapeStays();
        readNoFileThen();
        readLeavesNothingOfTheFileBefore();
        fault();
        table();
        methodWhat();
        methodUnknown();
        poolWhat();
        poolUnknown();
        kindOfItems();
        kindBehindItsMap();
        kindOfLocals();
        kindUnknown();
        callSteps();
        callTheFirstThatFits();
        result();
        toldBefore();
        toldOfTheLatest();
        toldOutside();
        countEach();
        countCalls();
        CHECKS.end();
    }

    private static InstrumentFiles five() {
        return Samples.read(Samples.five(), 5, CHECKS);
    }

    private static void constants() {
        CHECKS.about("The public face", "NONE = -1, UNKNOWN = -101, OUTSIDE = -102, STATE = -103, FULL = -104");
        CHECKS.same("NONE", InstrumentFiles.NONE, -1);
        CHECKS.same("UNKNOWN", UNKNOWN, -101);
        CHECKS.same("OUTSIDE", OUTSIDE, -102);
        CHECKS.same("STATE", STATE, -103);
        CHECKS.same("FULL", FULL, -104);
    }

    private static void fiveHundredAndTwelveCalls() {
        CHECKS.about("What it is", "An object is used for at most 512 calls after it has been made");
        InstrumentFiles it = new InstrumentFiles();
        for (int call = 1; call <= 500; call++) {
            CHECKS.same("call " + call, it.feed(call, 1), call);
        }
        for (int call = 501; call <= 511; call++) {
            CHECKS.same("call " + call, it.feed(call, 1), FULL);
        }
        CHECKS.same("call 512", it.at(499), 500 & 255);
    }

    private static void aNewObject() {
        CHECKS.about("Promise 1", "An empty TAPE; no FILE was read; TABLE 0.0.");
        InstrumentFiles it = new InstrumentFiles();
        for (int what = 0; what <= 4; what++) {
            CHECKS.same("count(" + what + ")", it.count(what), 0);
        }
        CHECKS.same("at(0)", it.at(0), UNKNOWN);
        CHECKS.same("alter(0, 0)", it.alter(0, 0), UNKNOWN);
        CHECKS.same("seal", it.seal(), STATE);
        CHECKS.same("fault", it.fault(), 0);
        CHECKS.same("method(0, 0)", it.method(0, 0), UNKNOWN);
        CHECKS.same("pool(0, 0)", it.pool(0, 0), UNKNOWN);
        CHECKS.same("kind(0, 0, 0)", it.kind(0, 0, 0), UNKNOWN);
        CHECKS.same("call(0, ..)", it.call(0, 0, 0, 0, 1), UNKNOWN);
        CHECKS.same("result", it.result(), 0);
        FileRow.feed(it, Samples.five().sealed());
        CHECKS.same("read", it.read(), 5);
        for (int i = 0; i <= 7; i++) {
            CHECKS.same("call", it.call(1, i, 0, 0, 3), 1);
            CHECKS.same("TABLE " + i, it.result(), 0);
        }
        InstrumentFiles other = five();
        other.table(3, HALF);
        InstrumentFiles later = five();
        CHECKS.same("call", later.call(1, 3, 0, 0, 3), 1);
        CHECKS.same("another object's TABLE is its own", later.result(), 0);
    }

    private static void feedLowestBytes() {
        CHECKS.about("Promise 2", "The n lowest bytes of w, the highest of them first, come behind THE TAPE");
        long[] words = {0x0102030405060708L, 0xfffefdfcfbfaf9f8L, Long.MIN_VALUE, Long.MAX_VALUE, 0, -1, 255, 256};
        for (long w : words) {
            InstrumentFiles it = FileRow.fed(99);
            int had = 1;
            for (int n = 1; n <= 8; n++) {
                CHECKS.same("feed(" + w + ", " + n + ")", it.feed(w, n), had + n);
                for (int i = 0; i < n; i++) {
                    CHECKS.same("byte " + i + " of " + n, it.at(had + i), (w >>> (8 * (n - 1 - i))) & 255);
                }
                had += n;
            }
            CHECKS.same("the byte ahead", it.at(0), 99);
            CHECKS.same("count(0)", it.count(0), 37);
        }
    }

    private static InstrumentFiles ofLength(int length) {
        InstrumentFiles it = new InstrumentFiles();
        for (int i = 0; i < length / 8; i++) {
            it.feed(0x1111111111111111L, 8);
        }
        if (length % 8 > 0) {
            it.feed(0x1111111111111111L, length % 8);
        }
        CHECKS.same("count(0)", it.count(0), length);
        return it;
    }

    private static void feedFiveHundredAtMost() {
        CHECKS.about("Promise 2", "(500 at most): how many it has.");
        for (int n = 1; n <= 8; n++) {
            CHECKS.same("up to 500 by " + n, ofLength(500 - n).feed(0x2222222222222222L, n), 500);
            InstrumentFiles over = ofLength(501 - n);
            CHECKS.same("up to 501 by " + n, over.feed(0x2222222222222222L, n), FULL);
            CHECKS.same("it has", over.count(0), 501 - n);
            CHECKS.same("the last", over.at(500 - n), 0x11);
            CHECKS.same("none behind", over.at(501 - n), UNKNOWN);
            if (n > 1) {
                CHECKS.same("one less still comes", over.feed(0x3333333333333333L, n - 1), 500);
                CHECKS.same("the last", over.at(499), 0x33);
            }
            CHECKS.same("none on a full one, by " + n, ofLength(500).feed(0, n), FULL);
        }
    }

    private static void feedOutside() {
        CHECKS.about("Promise 2", "OUTSIDE: n is not 1 .. 8; FULL.");
        for (int n : new int[] {0, 9, -1, -8, 16, 256, MIN, MAX}) {
            InstrumentFiles it = FileRow.fed(7);
            CHECKS.same("feed(-1, " + n + ")", it.feed(-1, n), OUTSIDE);
            CHECKS.same("count(0)", it.count(0), 1);
            CHECKS.same("OUTSIDE ahead of FULL: " + n, ofLength(500).feed(-1, n), OUTSIDE);
        }
        CHECKS.same("1", new InstrumentFiles().feed(5, 1), 1);
        CHECKS.same("8", new InstrumentFiles().feed(5, 8), 8);
    }

    private static void wipe() {
        CHECKS.about("Promise 3", "THE TAPE is empty: how many bytes it had.");
        for (int length : new int[] {0, 1, 8, 499, 500}) {
            InstrumentFiles it = ofLength(length);
            CHECKS.same("wipe of " + length, it.wipe(), length);
            CHECKS.same("count(0)", it.count(0), 0);
            CHECKS.same("at(0)", it.at(0), UNKNOWN);
            CHECKS.same("seal", it.seal(), STATE);
            CHECKS.same("wipe of none", it.wipe(), 0);
            CHECKS.same("read", it.read(), -200);
            CHECKS.same("feed", it.feed(6, 1), 1);
        }
        InstrumentFiles it = five();
        it.table(2, HALF);
        it.call(0, 1, 0, 0, 9);
        it.wipe();
        CHECKS.same("the FILE stays", it.count(1), 5);
        CHECKS.same("CALLS stay", it.count(4), 1);
        CHECKS.same("how often it FAILED stays", it.method(0, 7), 1);
        CHECKS.same("what is told stays", it.told(0), 1);
        CHECKS.same("call", it.call(1, 2, 0, 0, 3), 1);
        CHECKS.same("TABLE stays", it.result(), HALF);
    }

    private static void alter() {
        CHECKS.about("Promise 4", "Byte i of THE TAPE is xored with a mask (0 .. 255): what it is then. UNKNOWN; OUTSIDE.");
        InstrumentFiles it = FileRow.fed(0, 255, 0x5a);
        for (int i = 0; i < 3; i++) {
            int[] was = {0, 255, 0x5a};
            for (int mask : new int[] {0, 255, 1, 128}) {
                was[i] ^= mask;
                CHECKS.same("alter(" + i + ", " + mask + ")", it.alter(i, mask), was[i]);
                CHECKS.same("at(" + i + ")", it.at(i), was[i]);
            }
            it.alter(i, 126);
            CHECKS.same("back", it.at(i), new int[] {0, 255, 0x5a}[i]);
        }
        for (int i : new int[] {-1, 3, 4, 499, 500, MIN, MAX}) {
            CHECKS.same("alter(" + i + ", 1)", it.alter(i, 1), UNKNOWN);
            CHECKS.same("UNKNOWN ahead of OUTSIDE", it.alter(i, 256), UNKNOWN);
            CHECKS.same("UNKNOWN ahead of OUTSIDE", it.alter(i, -1), UNKNOWN);
        }
        for (int mask : new int[] {-1, 256, 257, 511, MIN, MAX}) {
            CHECKS.same("alter(2, " + mask + ")", it.alter(2, mask), OUTSIDE);
            CHECKS.same("at(2)", it.at(2), 0x5a);
        }
        InstrumentFiles full = ofLength(500);
        CHECKS.same("the last of a full one", full.alter(499, 0xff), 0xee);
        CHECKS.same("behind it", full.alter(500, 0xff), UNKNOWN);
        CHECKS.same("of an empty one", new InstrumentFiles().alter(0, 0), UNKNOWN);
    }

    private static void at() {
        CHECKS.about("Promise 5", "A byte of THE TAPE. UNKNOWN.");
        InstrumentFiles it = FileRow.fed(0, 128, 255);
        CHECKS.same("at(0)", it.at(0), 0);
        CHECKS.same("at(1)", it.at(1), 128);
        CHECKS.same("at(2)", it.at(2), 255);
        for (int i : new int[] {-1, 3, 499, 500, MIN, MAX}) {
            CHECKS.same("at(" + i + ")", it.at(i), UNKNOWN);
        }
        InstrumentFiles full = ofLength(500);
        CHECKS.same("at(499)", full.at(499), 0x11);
        CHECKS.same("at(500)", full.at(500), UNKNOWN);
        full.wipe();
        CHECKS.same("at(0) when wiped", full.at(0), UNKNOWN);
        full.feed(1, 1);
        CHECKS.same("at(1) of one byte", full.at(1), UNKNOWN);
    }

    private static void seal() {
        CHECKS.about("Promise 6", "The last byte of THE TAPE becomes the SUM of those ahead: that. STATE: it is empty.");
        int[][] rows = {{9}, {255, 9}, {255, 1, 9}, {255, 2, 9}, {128, 127, 9}, {255, 255, 255, 9}, {0, 0, 9},
            {200, 100, 44}, {128, 128, 255}};
        int[] sums = {0, 255, 0, 1, 255, 253, 0, 44, 0};
        for (int i = 0; i < rows.length; i++) {
            InstrumentFiles it = FileRow.fed(rows[i]);
            CHECKS.same("seal of " + Arrays.toString(rows[i]), it.seal(), sums[i]);
            CHECKS.same("the last byte", it.at(rows[i].length - 1), sums[i]);
            CHECKS.same("seal again", it.seal(), sums[i]);
            CHECKS.same("count(0)", it.count(0), rows[i].length);
            for (int j = 0; j < rows[i].length - 1; j++) {
                CHECKS.same("a byte ahead", it.at(j), rows[i][j]);
            }
        }
        CHECKS.same("seal of a full one", ofLength(500).seal(), 499 * 0x11 % 256);
        CHECKS.same("seal of an empty one", new InstrumentFiles().seal(), STATE);
    }

    private static FileRow badCode(int m, int place) {
        FileRow row = FileRow.of(1).pool(6).word("a").word("b").word("c").word("d").word("e").anInt(6).methods(5);
        for (int i = 0; i < 5; i++) {
            if (i == m) {
                int[] code = new int[48];
                code[place] = 99;
                row.head(i, I, 0, 1).code(code).maps(0);
            } else {
                row.endless(i);
            }
        }
        return row;
    }

    private static void readAnswers() {
        CHECKS.about("Promise 7", "how many METHODS; with a FAULT 1 to 10 -200 less its place on THE TAPE, with one of 11 to "
            + "18 -1000 less 50 times the METHOD and the place in its CODE");
        for (int methods = 1; methods <= 5; methods++) {
            FileRow row = FileRow.of(1).pool(5).word("a").word("b").word("c").word("d").word("e").methods(methods);
            for (int m = 0; m < methods; m++) {
                row.endless(m);
            }
            CHECKS.same("read of " + methods, FileRow.fed(row.sealed()).read(), methods);
        }
        CHECKS.same("a FAULT at place 0, by CUT", new InstrumentFiles().read(), -200);
        CHECKS.same("a FAULT at place 0, by MARK", FileRow.fed(74).read(), -200);
        CHECKS.same("a FAULT at place 1", FileRow.fed(73).read(), -201);
        for (int m = 0; m < 5; m++) {
            for (int place : new int[] {0, 1, 46, 47}) {
                InstrumentFiles it = FileRow.fed(badCode(m, place).sealed());
                CHECKS.same("METHOD " + m + ", place " + place, it.read(), -1000 - 50 * m - place);
                CHECKS.same("fault", it.fault(), 12);
            }
        }
    }

    private static void readTheTapeStays() {
        CHECKS.about("Promise 7", "THE TAPE, which stays, is read as a FILE, and judged");
        int[][] rows = {Samples.five().sealed(), {73, 78, 3, 9}, badCode(2, 7).sealed(), {}};
        int[] answers = {5, -202, -1107, -200};
        for (int i = 0; i < rows.length; i++) {
            InstrumentFiles it = FileRow.fed(rows[i]);
            for (int times = 0; times < 2; times++) {
                CHECKS.same("read", it.read(), answers[i]);
                CHECKS.same("count(0)", it.count(0), rows[i].length);
                for (int j = 0; j < rows[i].length; j++) {
                    CHECKS.same("at(" + j + ")", it.at(j), rows[i][j]);
                }
            }
        }
    }

    private static void readNoFileThen() {
        CHECKS.about("Promise 7", "there is no FILE then (also where there was one)");
        int[][] rows = {{}, {73}, badCode(0, 0).sealed(), badCode(4, 47).sealed()};
        int[] answers = {-200, -201, -1000, -1247};
        int[] faults = {1, 1, 12, 12};
        for (int i = 0; i < rows.length; i++) {
            InstrumentFiles it = five();
            CHECKS.same("call", it.call(0, 9, 3, 0, 9), 1);
            it.wipe();
            FileRow.feed(it, rows[i]);
            CHECKS.same("still there before read", it.count(1), 5);
            CHECKS.same("read", it.read(), answers[i]);
            CHECKS.same("fault", it.fault(), faults[i]);
            for (int what = 1; what <= 4; what++) {
                CHECKS.same("count(" + what + ")", it.count(what), 0);
            }
            CHECKS.same("method(0, 0)", it.method(0, 0), UNKNOWN);
            CHECKS.same("pool(0, 0)", it.pool(0, 0), UNKNOWN);
            CHECKS.same("kind(0, 0, 0)", it.kind(0, 0, 0), UNKNOWN);
            CHECKS.same("call(0, ..)", it.call(0, 9, 3, 0, 9), UNKNOWN);
            CHECKS.same("the latest CALL is as it was", it.told(1), 4);
            CHECKS.same("and what it gave back", it.result(), 3);
        }
    }

    private static void readLeavesNothingOfTheFileBefore() {
        CHECKS.about("Promise 7", "is read as a FILE, and judged");
        FileRow large = FileRow.of(2).pool(4).word("a").word("b").aDouble(7).anInt(7).methods(2)
            .head(0, D, 6, 6, D, I, D).code(0, 0, 0, 2, 2, 22).maps(3)
            .add(0, D, I, D, 0, 0, 0, 0).add(1, D, I, D, 0, 0, 0, 0).add(2, D, I, D, 0, 0, 0, 0)
            .head(1, I, 3, 1, I, I, I).code(3, 2, 22).maps(0);
        FileRow small = FileRow.of(1).pool(2).word("b").anInt(5).methods(1).head(0, I, 6, 1).code(1, 1, 22).maps(0);
        InstrumentFiles it = Samples.read(large, 2, CHECKS);
        CHECKS.same("LOCAL 0 of the large one", it.kind(0, 0, -1), D);
        it.wipe();
        FileRow.feed(it, small.sealed());
        CHECKS.same("read of the small one", it.read(), 1);
        int[] due = {0, I, 6, 1, 3, 0, 0, 0, 0};
        for (int what = 0; what <= 8; what++) {
            CHECKS.same("method(0, " + what + ")", it.method(0, what), due[what]);
        }
        for (int l = 0; l < 6; l++) {
            CHECKS.same("LOCAL " + l, it.kind(0, 0, -1 - l), 0);
        }
        CHECKS.same("no OP at its second place", it.kind(0, 1, 0), UNKNOWN);
        CHECKS.same("no third entry", it.pool(2, 0), UNKNOWN);
        CHECKS.same("no second METHOD", it.method(1, 0), UNKNOWN);
        CHECKS.same("VERSION", it.count(3), 1);
        CHECKS.same("call", it.call(0, 9, 9, 9, 9), 1);
        CHECKS.same("result", it.result(), 5);
        it.wipe();
        FileRow.feed(it, FileRow.of(1).pool(1).word("b").methods(1).head(0, D, 6, 1).code(3, 0, 22).maps(0).sealed());
        CHECKS.same("a LOCAL that the large one TAKES is nothing now", it.read(), -1000);
        CHECKS.same("KIND", it.fault(), 16);
        it.wipe();
        FileRow.feed(it, FileRow.of(1).pool(1).word("a").methods(1).head(0, I, 0, 1).code(19, 1, 22).maps(0).sealed());
        CHECKS.same("a MAP of the large one is none now", it.read(), -1000);
        CHECKS.same("JUMP", it.fault(), 18);
    }

    private static void fault() {
        CHECKS.about("Promise 8", "The FAULT of the latest read(); 0: it had none, or there was none.");
        InstrumentFiles it = new InstrumentFiles();
        CHECKS.same("there was none", it.fault(), 0);
        FileRow.feed(it, Samples.five().sealed());
        CHECKS.same("still none", it.fault(), 0);
        it.read();
        CHECKS.same("it had none", it.fault(), 0);
        it.alter(1, 1);
        CHECKS.same("before the next read", it.fault(), 0);
        it.read();
        CHECKS.same("MARK", it.fault(), 2);
        it.alter(1, 1);
        CHECKS.same("till the next read", it.fault(), 2);
        it.read();
        CHECKS.same("none again", it.fault(), 0);
        it.wipe();
        FileRow.feed(it, badCode(0, 3).sealed());
        it.read();
        CHECKS.same("OP", it.fault(), 12);
        it.wipe();
        CHECKS.same("wipe leaves it", it.fault(), 12);
        it.read();
        CHECKS.same("CUT", it.fault(), 1);
    }

    private static void table() {
        CHECKS.about("Promise 9", "TABLE i becomes the DOUBLE with these bits: 1. UNKNOWN.");
        InstrumentFiles it = five();
        long[] bits = {0, Long.MIN_VALUE, 1, HALF, 0x7ff0000000000000L, 0xfff0000000000000L, -1, 0x7ff0000000000001L};
        for (int i = 0; i <= 7; i++) {
            CHECKS.same("table(" + i + ", ..)", it.table(i, bits[i]), 1);
        }
        for (int i : new int[] {-1, 8, 9, 16, MIN, MAX}) {
            CHECKS.same("table(" + i + ", ..)", it.table(i, FileRow.bits(77)), UNKNOWN);
        }
        for (int i = 0; i <= 7; i++) {
            CHECKS.same("call", it.call(1, i, 0, 0, 3), 1);
            CHECKS.same("TABLE " + i, it.result(), i < 6 ? bits[i] : NO_NUMBER);
        }
        CHECKS.same("without a FILE", new InstrumentFiles().table(0, 1), 1);
        CHECKS.same("without a FILE", new InstrumentFiles().table(7, 1), 1);
        CHECKS.same("UNKNOWN without a FILE", new InstrumentFiles().table(8, 1), UNKNOWN);
        it.read();
        CHECKS.same("call", it.call(1, 3, 0, 0, 3), 1);
        CHECKS.same("read leaves it", it.result(), HALF);
    }

    private static void methodWhat() {
        CHECKS.about("Promise 10", "0 how many it TAKES, 1 the KIND that it GIVES, 2 LOCALS, 3 STACK, 4 L, 5 MAPS, 6 its "
            + "NAME's entry, 7 how often it FAILED by 1, 2 in CALLS from outside (3 at most), 8 whether it is ASIDE (1, 0).");
        FileRow row = FileRow.of(1).pool(3).anInt(9).word("a").word("b").methods(2)
            .head(2, D, 6, 6, I, D, I).code(3, 1, 22, 19, 3).maps(2)
            .add(0, 0, 2, 0, 0, 0, 0, 0).add(3, 0, 0, 0, 0, 0, 0, 0)
            .head(1, I, 0, 1).code(1, 0, 22).maps(0);
        InstrumentFiles it = Samples.read(row, 2, CHECKS);
        int[][] due = {{3, D, 6, 6, 5, 2, 2, 0, 0}, {0, I, 0, 1, 3, 0, 1, 0, 0}};
        for (int m = 0; m < 2; m++) {
            for (int what = 0; what <= 8; what++) {
                CHECKS.same("method(" + m + ", " + what + ")", it.method(m, what), due[m][what]);
            }
            for (int what : new int[] {-1, 9, 10, MIN, MAX}) {
                CHECKS.same("method(" + m + ", " + what + ")", it.method(m, what), OUTSIDE);
            }
        }
        InstrumentFiles failing = five();
        for (int failed = 0; failed <= 4; failed++) {
            CHECKS.same("how often", failing.method(0, 7), Math.min(failed, 3));
            CHECKS.same("ASIDE", failing.method(0, 8), failed >= 3 ? 1 : 0);
            failing.call(0, 1, 0, 0, 9);
        }
    }

    private static void methodUnknown() {
        CHECKS.about("Promise 10", "UNKNOWN; OUTSIDE.");
        InstrumentFiles it = five();
        CHECKS.same("the first", it.method(0, 4), 6);
        CHECKS.same("the last", it.method(4, 4), 3);
        for (int m : new int[] {-1, 5, 6, MIN, MAX}) {
            for (int what : new int[] {0, 8, 9, -1}) {
                CHECKS.same("method(" + m + ", " + what + ")", it.method(m, what), UNKNOWN);
            }
        }
    }

    private static void poolWhat() {
        CHECKS.about("Promise 11", "Of a POOL entry: its TAG (what = 0), its number's BITS (1; of a WORD how many letters).");
        FileRow row = FileRow.of(1).pool(8).anInt(-1).anInt(Integer.MIN_VALUE).aDouble(-0.0).doubleBits(-1).word("a")
            .word("abcdefgh").anInt(0).doubleBits(0x7ff0000000000001L).methods(1).endless(4);
        InstrumentFiles it = Samples.read(row, 1, CHECKS);
        int[] tags = {1, 1, 2, 2, 3, 3, 1, 2};
        long[] values = {-1, MIN, Long.MIN_VALUE, NO_NUMBER, 1, 8, 0, NO_NUMBER};
        for (int e = 0; e < 8; e++) {
            CHECKS.same("pool(" + e + ", 0)", it.pool(e, 0), tags[e]);
            CHECKS.same("pool(" + e + ", 1)", it.pool(e, 1), values[e]);
            for (int what : new int[] {-1, 2, 3, MIN, MAX}) {
                CHECKS.same("pool(" + e + ", " + what + ")", it.pool(e, what), OUTSIDE);
            }
        }
    }

    private static void poolUnknown() {
        CHECKS.about("Promise 11", "UNKNOWN; OUTSIDE.");
        InstrumentFiles it = five();
        CHECKS.same("the first", it.pool(0, 0), 3);
        CHECKS.same("the last", it.pool(5, 0), 1);
        for (int e : new int[] {-1, 6, 15, 16, MIN, MAX}) {
            for (int what : new int[] {0, 1, 2, -1}) {
                CHECKS.same("pool(" + e + ", " + what + ")", it.pool(e, what), UNKNOWN);
            }
        }
    }

    /** At place 2 d there are d items, up to six at 12, where a MAP forgets LOCALS; at 14 a MAP alone tells. */
    private static InstrumentFiles withSixItems() {
        FileRow row = FileRow.of(1).pool(4).word("a").anInt(6).aDouble(2).word("b").methods(2)
            .head(0, I, 6, 6, I, D).code(1, 1, 2, 2, 1, 1, 2, 2, 2, 2, 1, 1, 0, 22, 19, 14).maps(2)
            .add(12, 1, 0, 0, 0, 0, 0, 6, I, D, I, D, D, I).add(14, 2, 1, 0, 0, 1, 2, 1, D)
            .endless(3);
        return Samples.read(row, 2, CHECKS);
    }

    private static void kindOfItems() {
        CHECKS.about("Promise 12", "k 0 and more: of STACK item k (0: there are not so many)");
        InstrumentFiles it = withSixItems();
        int[] pushed = {I, D, I, D, D, I};
        for (int depth = 0; depth <= 6; depth++) {
            for (int k = 0; k <= 5; k++) {
                CHECKS.same("kind(0, " + 2 * depth + ", " + k + ")", it.kind(0, 2 * depth, k), k < depth ? pushed[k] : 0);
            }
        }
        CHECKS.same("the one item of the MAP", it.kind(0, 14, 0), D);
        CHECKS.same("no second", it.kind(0, 14, 1), 0);
        CHECKS.same("item 5 where STACK is 1", it.kind(1, 0, 5), 0);
        CHECKS.about("Promise 12", "OUTSIDE: no such LOCAL, k above 5.");
        for (int k : new int[] {6, 7, 100, MAX}) {
            CHECKS.same("kind(0, 12, " + k + ")", it.kind(0, 12, k), OUTSIDE);
            CHECKS.same("kind(1, 0, " + k + ")", it.kind(1, 0, k), OUTSIDE);
        }
    }

    private static void kindBehindItsMap() {
        CHECKS.about("Promise 12", "KINDS as they were judged ahead of the OP at a place (behind its MAP)");
        InstrumentFiles it = withSixItems();
        CHECKS.same("LOCAL 1 at the OP ahead of the MAP", it.kind(0, 10, -2), D);
        CHECKS.same("LOCAL 1 at the MAP that forgets it", it.kind(0, 12, -2), 0);
        CHECKS.same("LOCAL 1 at the OP behind it", it.kind(0, 13, -2), 0);
        CHECKS.same("no item ahead of the first OP", it.kind(0, 0, 0), 0);
        CHECKS.same("the item that it pushes, ahead of the second", it.kind(0, 2, 0), I);
        CHECKS.same("six items ahead of 22", it.kind(0, 13, 5), I);
    }

    private static void kindOfLocals() {
        CHECKS.about("Promise 12", "below 0: of LOCAL -1 less k (0: nothing)");
        InstrumentFiles it = withSixItems();
        int[][] due = {{I, D, 0, 0, 0, 0}, {I, 0, 0, 0, 0, 0}, {D, I, 0, 0, I, D}};
        int[] places = {10, 12, 14};
        for (int i = 0; i < 3; i++) {
            for (int l = 0; l < 6; l++) {
                CHECKS.same("kind(0, " + places[i] + ", " + (-1 - l) + ")", it.kind(0, places[i], -1 - l), due[i][l]);
            }
        }
        CHECKS.about("Promise 12", "OUTSIDE: no such LOCAL, k above 5.");
        for (int k : new int[] {-7, -8, -100, MIN, MIN + 1}) {
            CHECKS.same("kind(0, 0, " + k + ")", it.kind(0, 0, k), OUTSIDE);
        }
        for (int k : new int[] {-1, -2, -6, MIN}) {
            CHECKS.same("of no LOCALS: kind(1, 0, " + k + ")", it.kind(1, 0, k), OUTSIDE);
        }
        for (int locals = 1; locals <= 6; locals++) {
            int[] map = new int[locals + 2];
            InstrumentFiles other = Samples.read(FileRow.of(1).pool(1).word("a").methods(1).head(0, I, locals, 1)
                .code(19, 0).maps(1).add(map), 1, CHECKS);
            CHECKS.same("the last LOCAL of " + locals, other.kind(0, 0, -locals), 0);
            CHECKS.same("behind the last of " + locals, other.kind(0, 0, -1 - locals), OUTSIDE);
        }
    }

    private static void kindUnknown() {
        CHECKS.about("Promise 12", "UNKNOWN: METHOD; no OP begins there");
        InstrumentFiles it = withSixItems();
        for (int m : new int[] {-1, 2, 5, MIN, MAX}) {
            for (int k : new int[] {0, 6, -1, -7}) {
                CHECKS.same("kind(" + m + ", 0, " + k + ")", it.kind(m, 0, k), UNKNOWN);
            }
        }
        for (int place : new int[] {-1, 1, 3, 5, 7, 9, 11, 15, 16, 17, 47, 48, MIN, MAX}) {
            for (int k : new int[] {0, 6, -1, -7}) {
                CHECKS.same("kind(0, " + place + ", " + k + ")", it.kind(0, place, k), UNKNOWN);
            }
        }
        for (int place : new int[] {0, 2, 4, 6, 8, 10, 12, 13, 14}) {
            CHECKS.holds("an OP begins at " + place, it.kind(0, place, 0) >= 0);
        }
        // Places of the METHOD that was there before are not those of this one.
        it.wipe();
        FileRow.feed(it, FileRow.of(1).pool(2).word("a").anInt(1).methods(1).head(0, I, 0, 1).code(1, 1, 22).maps(0)
            .sealed());
        CHECKS.same("read", it.read(), 1);
        CHECKS.same("the last place", it.kind(0, 2, 0), I);
        for (int place : new int[] {1, 3, 4, 6, 12, 13, 14}) {
            CHECKS.same("kind(0, " + place + ", 0)", it.kind(0, place, 0), UNKNOWN);
        }
    }

    private static void callSteps() {
        CHECKS.about("Promise 13", "STEPS 1 .. 1000: 1; 0: it FAILED.");
        InstrumentFiles it = five();
        CHECKS.same("STEPS 1", it.call(4, 0, 0, 0, 1), 0);
        CHECKS.same("STEPS 2", it.call(4, 0, 0, 0, 2), 1);
        CHECKS.same("STEPS 999", it.call(4, 0, 0, 0, 999), 1);
        CHECKS.same("STEPS 1000", it.call(4, 0, 0, 0, 1000), 1);
        for (int steps : new int[] {0, -1, 1001, 1002, MIN, MAX}) {
            CHECKS.same("STEPS " + steps, it.call(4, 0, 0, 0, steps), OUTSIDE);
        }
        CHECKS.same("CALLS", it.count(4), 4);
    }

    private static void callTheFirstThatFits() {
        CHECKS.about("Promise 13", "UNKNOWN; OUTSIDE; STATE: it is ASIDE.");
        InstrumentFiles it = five();
        for (int i = 0; i < 3; i++) {
            CHECKS.same("call", it.call(0, 1, 0, 0, 9), 0);
        }
        for (int m : new int[] {-1, 5, MIN, MAX}) {
            for (int steps : new int[] {0, 1, 1000, 1001}) {
                CHECKS.same("call of " + m + " with STEPS " + steps, it.call(m, 1, 1, 0, steps), UNKNOWN);
            }
        }
        for (int steps : new int[] {0, 1001, MIN}) {
            CHECKS.same("ASIDE, with STEPS " + steps, it.call(0, 1, 1, 0, steps), OUTSIDE);
        }
        for (int steps : new int[] {1, 1000}) {
            CHECKS.same("ASIDE, with STEPS " + steps, it.call(0, 1, 1, 0, steps), STATE);
        }
    }

    private static void result() {
        CHECKS.about("Promise 14", "BITS of what the latest CALL gave back; 0: it FAILED, there was none.");
        InstrumentFiles it = five();
        CHECKS.same("there was none", it.result(), 0);
        it.call(4, 0, 0, 0, 2);
        CHECKS.same("an INT", it.result(), 6);
        it.call(0, 1, 0, 0, 9);
        CHECKS.same("ZERO", it.result(), 0);
        it.call(0, -7, 1, 0, 9);
        CHECKS.same("an INT below 0, as a long", it.result(), -7);
        it.call(4, 0, 0, 0, 1);
        CHECKS.same("SPENT", it.result(), 0);
        it.table(7, HALF);
        it.call(1, 7, 0, 0, 9);
        CHECKS.same("a DOUBLE", it.result(), HALF);
        it.call(1, 8, 0, 0, 9);
        CHECKS.same("INDEX", it.result(), 0);
        it.call(4, 0, 0, 0, 2);
        it.call(2, 0, 0, 0, 1000);
        CHECKS.same("DEEP", it.result(), 0);
        it.table(6, -1);
        it.call(1, 6, 0, 0, 9);
        CHECKS.same("no number", it.result(), NO_NUMBER);
    }

    private static void toldBefore() {
        CHECKS.about("Promise 15", "Of the latest CALL (0 before)");
        InstrumentFiles it = new InstrumentFiles();
        for (int what = 0; what <= 4; what++) {
            CHECKS.same("told(" + what + ") of a new object", it.told(what), 0);
        }
        FileRow.feed(it, Samples.five().sealed());
        it.read();
        it.call(-1, 0, 0, 0, 1);
        it.call(0, 0, 0, 0, 0);
        for (int what = 0; what <= 4; what++) {
            CHECKS.same("told(" + what + ") before the first CALL", it.told(what), 0);
        }
    }

    private static void toldOfTheLatest() {
        CHECKS.about("Promise 15", "0 its FAILURE (0: none), 1 STEPS done, 2 the METHOD, 3 the place of the OP that FAILED "
            + "(NONE: none FAILED; the innermost; of SPENT the one that would begin), 4 how deep CALLS were within one "
            + "another at most (1: itself alone).");
        InstrumentFiles it = five();
        int[][] calls = {{4, 0, 0, 2}, {0, 9, 0, 9}, {1, 8, 0, 9}, {3, 9, 0, 99}, {2, 0, 0, 1000}, {3, 9, 3, 6}, {3, 9, 3, 10},
            {4, 0, 0, 1}};
        int[][] due = {{0, 2, 4, -1, 1}, {1, 3, 0, 4, 1}, {2, 2, 1, 2, 1}, {1, 8, 3, 4, 2}, {4, 16, 2, 1, 8}, {3, 6, 3, 2, 2},
            {0, 10, 3, -1, 2}, {3, 1, 4, 2, 1}};
        for (int i = 0; i < calls.length; i++) {
            it.call(calls[i][0], calls[i][1], calls[i][2], 0, calls[i][3]);
            for (int what = 0; what <= 4; what++) {
                CHECKS.same("told(" + what + ") of call " + i, it.told(what), due[i][what]);
            }
        }
    }

    private static void toldOutside() {
        CHECKS.about("Promise 15", "(1: itself alone). OUTSIDE.");
        InstrumentFiles it = five();
        for (int times = 0; times < 2; times++) {
            for (int what : new int[] {-1, 5, 6, MIN, MAX}) {
                CHECKS.same("told(" + what + ")", it.told(what), OUTSIDE);
            }
            it.call(4, 0, 0, 0, 9);
        }
        CHECKS.same("told(0)", it.told(0), 0);
        CHECKS.same("told(4)", it.told(4), 1);
    }

    private static void countEach() {
        CHECKS.about("Promise 16", "0 bytes on THE TAPE, 1 METHODS, 2 POOL entries, 3 the VERSION (0: no FILE)");
        for (int version = 1; version <= 2; version++) {
            int[] row = Samples.five().set(2, version).sealed();
            InstrumentFiles it = FileRow.fed(row);
            CHECKS.same("bytes", it.count(0), row.length);
            for (int what = 1; what <= 4; what++) {
                CHECKS.same("count(" + what + ") before read", it.count(what), 0);
            }
            it.read();
            CHECKS.same("METHODS", it.count(1), 5);
            CHECKS.same("POOL entries", it.count(2), 6);
            CHECKS.same("VERSION", it.count(3), version);
            it.wipe();
            CHECKS.same("no bytes", it.count(0), 0);
            CHECKS.same("VERSION when wiped", it.count(3), version);
            it.read();
            CHECKS.same("no FILE", it.count(3), 0);
        }
        CHECKS.same("a full TAPE", ofLength(500).count(0), 500);
        CHECKS.about("Promise 16", "4 CALLS from outside since read(). OUTSIDE.");
        for (int what : new int[] {-1, 5, 6, MIN, MAX}) {
            CHECKS.same("count(" + what + ")", five().count(what), OUTSIDE);
        }
    }

    private static void countCalls() {
        CHECKS.about("Promise 16", "4 CALLS from outside since read().");
        InstrumentFiles it = five();
        CHECKS.same("none", it.count(4), 0);
        it.call(4, 0, 0, 0, 9);
        CHECKS.same("one", it.count(4), 1);
        it.call(3, 9, 3, 0, 99);
        CHECKS.same("an inner one is not from outside", it.count(4), 2);
        it.call(0, 9, 0, 0, 99);
        CHECKS.same("one that FAILED", it.count(4), 3);
        it.call(4, 0, 0, 0, 0);
        it.call(5, 0, 0, 0, 9);
        CHECKS.same("refused ones are none", it.count(4), 3);
        it.call(0, 9, 0, 0, 99);
        it.call(0, 9, 0, 0, 99);
        it.call(0, 9, 0, 0, 99);
        CHECKS.same("one of what is ASIDE is none", it.count(4), 5);
        it.wipe();
        CHECKS.same("wipe leaves it", it.count(4), 5);
        it.read();
        CHECKS.same("none since read", it.count(4), 0);
    }
}
