import java.util.Arrays;

/** Promises 7, 8, 11 and 10 as they follow from reading: the FILE and its FAULTS 1 to 10. */
public final class ReadTest {
    private static final Checks CHECKS = new Checks("ReadTest");
    private static final int CUT = 1, MARK = 2, COUNT = 3, TAG = 4, LETTER = 5, NAME = 6, KIND = 7, PLACE = 8;
    private static final int SUM = 9, MORE = 10;
    private static final int INT = FileRow.INT;
    private static final int DOUBLE = FileRow.DOUBLE;

    /** Where the parts of the row of sample() begin. */
    private static final int POOL = 3, METHODS = 27, SECOND = 57, LAST = 67;

    public static void main(String[] args) {
        theSampleIsSound();
        everyCut();
        more();
        marks();
        poolBytes();
        methodBytes();
        mapBytes();
        names();
        sums();
        theFirstWrongByteTells();
        mostOfEach();
        aFaultLeavesNoFile();
        theTapeMayChange();
        CHECKS.end();
    }

    /** POOL: az (4), -2 (8), 1.5 (13), abs (22); METHODS: az from 28 to 56, abs from 57 to 66; SUM at 67. */
    private static int[] sample() {
        return FileRow.of(1)
            .pool(4).word("az").anInt(-2).aDouble(1.5).word("abs")
            .methods(2)
            .head(0, INT, 3, 2, INT, DOUBLE).code(3, 0, 20, 7, 3, 0, 22, 1, 1, 22)
            .maps(2).add(0, 1, 2, 0, 0).add(7, 0, 2, 0, 0)
            .head(3, DOUBLE, 0, 1).code(2, 2, 22).maps(0)
            .sealed();
    }

    private static int[] with(int[] row, int i, int value) {
        int[] other = row.clone();
        other[i] = value;
        return other;
    }

    private static void refused(String what, int[] row, int fault, int place) {
        InstrumentFiles it = FileRow.fed(row);
        CHECKS.same("read of " + what, it.read(), -200 - place);
        CHECKS.same("fault of " + what, it.fault(), fault);
        CHECKS.same("METHODS of " + what, it.count(1), 0);
    }

    private static void notRefusedAt(String what, int[] row, int place) {
        InstrumentFiles it = FileRow.fed(row);
        CHECKS.holds("read of " + what, it.read() != -200 - place);
    }

    private static void theSampleIsSound() {
        InstrumentFiles it = FileRow.fed(sample());
        CHECKS.same("how long", it.count(0), LAST + 1);
        CHECKS.same("read", it.read(), 2);
        CHECKS.same("fault", it.fault(), 0);
        CHECKS.same("METHODS", it.count(1), 2);
        CHECKS.same("POOL entries", it.count(2), 4);
        CHECKS.same("VERSION", it.count(3), 1);
        CHECKS.same("the TAPE stays", it.count(0), LAST + 1);
        int[] tags = {3, 1, 2, 3};
        long[] values = {2, -2, FileRow.bits(1.5), 3};
        for (int e = 0; e < 4; e++) {
            CHECKS.same("TAG " + e, it.pool(e, 0), tags[e]);
            CHECKS.same("value " + e, it.pool(e, 1), values[e]);
            CHECKS.same("pool(e, 2)", it.pool(e, 2), InstrumentFiles.OUTSIDE);
            CHECKS.same("pool(e, -1)", it.pool(e, -1), InstrumentFiles.OUTSIDE);
        }
        for (int e : new int[] {-1, 4, 16, Integer.MIN_VALUE, Integer.MAX_VALUE}) {
            CHECKS.same("pool(" + e + ", 0)", it.pool(e, 0), InstrumentFiles.UNKNOWN);
            CHECKS.same("pool(" + e + ", 2)", it.pool(e, 2), InstrumentFiles.UNKNOWN);
        }
        int[] first = {2, INT, 3, 2, 10, 2, 0, 0, 0};
        int[] second = {0, DOUBLE, 0, 1, 3, 0, 3, 0, 0};
        for (int what = 0; what < 9; what++) {
            CHECKS.same("method(0, " + what + ")", it.method(0, what), first[what]);
            CHECKS.same("method(1, " + what + ")", it.method(1, what), second[what]);
        }
        for (int what : new int[] {-1, 9, Integer.MIN_VALUE, Integer.MAX_VALUE}) {
            CHECKS.same("method(0, " + what + ")", it.method(0, what), InstrumentFiles.OUTSIDE);
            CHECKS.same("method(2, " + what + ")", it.method(2, what), InstrumentFiles.UNKNOWN);
        }
        CHECKS.same("method(-1, 0)", it.method(-1, 0), InstrumentFiles.UNKNOWN);
        CHECKS.same("method(MIN, 0)", it.method(Integer.MIN_VALUE, 0), InstrumentFiles.UNKNOWN);
        CHECKS.same("count(5)", it.count(5), InstrumentFiles.OUTSIDE);
        CHECKS.same("count(-1)", it.count(-1), InstrumentFiles.OUTSIDE);
    }

    private static void everyCut() {
        int[] row = sample();
        for (int length = 0; length < row.length; length++) {
            refused("the first " + length, Arrays.copyOf(row, length), CUT, length);
        }
    }

    private static void more() {
        int[] row = sample();
        refused("one byte more", Arrays.copyOf(row, row.length + 1), MORE, row.length);
        refused("nine bytes more", Arrays.copyOf(row, row.length + 9), MORE, row.length);
    }

    private static void marks() {
        int[] row = sample();
        for (int value = 0; value < 256; value++) {
            if (value != 73) {
                refused("73 as " + value, with(row, 0, value), MARK, 0);
            }
            if (value != 78) {
                refused("78 as " + value, with(row, 1, value), MARK, 1);
            }
            if (value != 1 && value != 2) {
                refused("VERSION " + value, with(row, 2, value), MARK, 2);
            }
        }
        InstrumentFiles it = FileRow.fed(with(with(row, 2, 2), LAST, row[LAST] + 1));
        CHECKS.same("read of VERSION 2", it.read(), 2);
        CHECKS.same("count(3)", it.count(3), 2);
    }

    private static void poolBytes() {
        int[] row = sample();
        for (int value = 0; value < 256; value++) {
            if (value > 16) {
                refused("p " + value, with(row, POOL, value), COUNT, POOL);
            }
            if (value < 1 || value > 3) {
                refused("TAG " + value, with(row, 4, value), TAG, 4);
                refused("TAG " + value, with(row, 8, value), TAG, 8);
            }
            if (value < 1 || value > 8) {
                refused("n " + value, with(row, 5, value), COUNT, 5);
            }
            if (value < 'a' || value > 'z') {
                refused("letter " + value, with(row, 6, value), LETTER, 6);
                refused("letter " + value, with(row, 7, value), LETTER, 7);
            }
        }
        for (int value : new int[] {0, 1, 16}) {
            notRefusedAt("p " + value, with(row, POOL, value), POOL);
        }
    }

    private static void methodBytes() {
        int[] row = sample();
        for (int value = 0; value < 256; value++) {
            if (value < 1 || value > 5) {
                refused("m " + value, with(row, METHODS, value), COUNT, METHODS);
            }
            if (value > 3) {
                refused("n " + value, with(row, 29, value), COUNT, 29);
                refused("n " + value, with(row, SECOND + 1, value), COUNT, SECOND + 1);
            }
            if (value < 1 || value > 2) {
                refused("a KIND that it TAKES " + value, with(row, 30, value), KIND, 30);
                refused("a KIND that it TAKES " + value, with(row, 31, value), KIND, 31);
                refused("a KIND that it GIVES " + value, with(row, 32, value), KIND, 32);
            }
            if (value < 2 || value > 6) {
                refused("LOCALS " + value, with(row, 33, value), COUNT, 33);
            }
            if (value < 1 || value > 6) {
                refused("STACK " + value, with(row, 34, value), COUNT, 34);
            }
            if (value < 1 || value > 48) {
                refused("L " + value, with(row, 35, value), COUNT, 35);
            }
            if (value > 8) {
                refused("k " + value, with(row, 46, value), COUNT, 46);
            }
        }
        notRefusedAt("LOCALS 2", with(row, 33, 2), 33);
        notRefusedAt("LOCALS 6", with(row, 33, 6), 33);
        notRefusedAt("L 48", with(row, 35, 48), 35);
    }

    /** Two MAPS at the end of the row: PLACE, two LOCALS and d 0; PLACE, two LOCALS, d 2 and two KINDS. */
    private static void mapBytes() {
        int[] row = FileRow.of(1).pool(1).word("a").methods(1)
            .head(0, INT, 2, 3, INT).code(0, 3, 0, 22).maps(2).add(0, 1, 0, 0).add(3, 1, 0, 2, INT, DOUBLE)
            .sealed();
        int first = row.length - 11;
        int second = first + 4;
        CHECKS.same("the first PLACE", row[first], 0);
        CHECKS.same("the second PLACE", row[second], 3);
        for (int value = 0; value < 256; value++) {
            if (value > 3) {
                refused("PLACE " + value, with(row, first, value), PLACE, first);
            }
            if (value < 1 || value > 3) {
                refused("PLACE " + value, with(row, second, value), PLACE, second);
            }
            if (value > 2) {
                refused("a LOCAL's KIND " + value, with(row, first + 1, value), KIND, first + 1);
                refused("a LOCAL's KIND " + value, with(row, second + 2, value), KIND, second + 2);
            }
            if (value > 3) {
                refused("d " + value, with(row, first + 3, value), COUNT, first + 3);
                refused("d " + value, with(row, second + 3, value), COUNT, second + 3);
            }
            if (value < 1 || value > 2) {
                refused("a KIND on the STACK " + value, with(row, second + 4, value), KIND, second + 4);
                refused("a KIND on the STACK " + value, with(row, second + 5, value), KIND, second + 5);
            }
        }
        refused("PLACE 3 twice", with(with(row, first, 3), second, 3), PLACE, second);
        notRefusedAt("d 3", with(row, second + 3, 3), second + 3);
    }

    private static void names() {
        int[] row = sample();
        int[] fits = {0, 3};
        for (int value = 0; value < 256; value++) {
            if (value != fits[0] && value != fits[1]) {
                refused("NAME " + value, with(row, METHODS + 1, value), NAME, METHODS + 1);
            }
            if (value != fits[1]) {
                refused("NAME " + value, with(row, SECOND, value), NAME, SECOND);
            }
        }
        refused("no NAME but that of the METHOD ahead", with(row, METHODS + 1, 3), NAME, SECOND);
        namesOfLetters("ab", "ab", true);
        namesOfLetters("ab", "abc", false);
        namesOfLetters("aaaaaaaa", "aaaaaaaa", true);
        namesOfLetters("aaaaaaaa", "baaaaaaa", false);
        namesOfLetters("aaaaaaaa", "aaaaaaab", false);
        namesOfLetters("a", "b", false);
    }

    /** The third METHOD's NAME against that of the first. */
    private static void namesOfLetters(String one, String other, boolean same) {
        FileRow file = FileRow.of(1).pool(4).word(one).word("q").word(other).anInt(1).methods(3)
            .head(0, INT, 0, 1).code(1, 3, 22).maps(0)
            .head(1, INT, 0, 1).code(1, 3, 22).maps(0);
        int place = file.size();
        int[] row = file.head(2, INT, 0, 1).code(1, 3, 22).maps(0).sealed();
        if (same) {
            refused(one + " and " + other, row, NAME, place);
        } else {
            CHECKS.same(one + " and " + other, FileRow.fed(row).read(), 3);
        }
    }

    private static void sums() {
        int[] row = sample();
        for (int value = 0; value < 256; value++) {
            if (value != row[LAST]) {
                refused("SUM " + value, with(row, LAST, value), SUM, LAST);
            }
        }
        InstrumentFiles it = FileRow.fed(with(row, LAST, 0));
        it.seal();
        CHECKS.same("sealed", it.read(), 2);
        refused("SUM wrong and more", Arrays.copyOf(with(row, LAST, row[LAST] ^ 1), LAST + 2), SUM, LAST);
        refused("another byte of CODE", with(row, 36, 4), SUM, LAST);
    }

    private static void theFirstWrongByteTells() {
        int[] row = sample();
        int[] bad = row.clone();
        for (int i = row.length - 1; i >= 0; i--) {
            bad[i] = 255;
            boolean free = i >= 9 && i <= 12 || i >= 14 && i <= 21 || i >= 36 && i <= 45
                || i >= SECOND + 6 && i <= SECOND + 8;
            if (!free) {
                CHECKS.same("read with 255 from " + i, FileRow.fed(bad).read(), -200 - i);
            }
        }
        refused("p 17 at the end", new int[] {73, 78, 1, 17}, COUNT, 3);
        refused("a NAME at the end", Arrays.copyOf(with(row, METHODS + 1, 1), METHODS + 2), NAME, METHODS + 1);
        refused("p 0 and a NAME", new int[] {73, 78, 1, 0, 1, 0}, NAME, 5);
        refused("a code of three bytes and PLACE 3", new int[] {73, 78, 1, 1, 3, 1, 'a', 1, 0, 0, 1, 0, 1, 3, 99, 99,
            99, 1, 3}, PLACE, 18);
    }

    private static void mostOfEach() {
        FileRow file = FileRow.of(2).pool(16);
        for (int e = 0; e < 5; e++) {
            file.word("abcdefg" + (char) ('a' + e));
        }
        for (int e = 5; e < 16; e++) {
            file.anInt(e);
        }
        file.methods(5);
        for (int m = 0; m < 5; m++) {
            int[] code = new int[m == 0 ? 48 : 3];
            code[code.length - 3] = 1;
            code[code.length - 2] = 15;
            code[code.length - 1] = 22;
            file.head(m, INT, 6, 6, INT, INT, DOUBLE).code(code);
            file.maps(m == 0 ? 8 : 0);
            for (int k = 0; m == 0 && k < 8; k++) {
                file.add(k * 5, 1, 1, 2, 0, 0, 0, 0);
            }
        }
        InstrumentFiles it = FileRow.fed(file.sealed());
        CHECKS.same("read of the most", it.read(), 5);
        CHECKS.same("POOL entries", it.count(2), 16);
        CHECKS.same("L", it.method(0, 4), 48);
        CHECKS.same("MAPS", it.method(0, 5), 8);
        CHECKS.same("letters", it.pool(4, 1), 8);
        CHECKS.same("the last entry", it.pool(15, 1), 15);
        CHECKS.same("call", it.call(4, 1, 2, 3, 9), 1);
        CHECKS.same("result", it.result(), 15);
        InstrumentFiles least = FileRow.fed(FileRow.of(1).pool(1).word("z").methods(1)
            .head(0, DOUBLE, 1, 1, DOUBLE).code(3, 0, 22).maps(0).sealed());
        CHECKS.same("read of few", least.read(), 1);
    }

    private static void aFaultLeavesNoFile() {
        InstrumentFiles it = FileRow.fed(sample());
        CHECKS.same("read", it.read(), 2);
        CHECKS.same("call", it.call(1, 0, 0, 0, 9), 1);
        CHECKS.same("CALLS", it.count(4), 1);
        it.alter(0, 1);
        CHECKS.same("nothing is gone before read", it.count(1), 2);
        CHECKS.same("read again", it.read(), -200);
        for (int what = 1; what <= 4; what++) {
            CHECKS.same("count(" + what + ")", it.count(what), 0);
        }
        CHECKS.same("method", it.method(0, 0), InstrumentFiles.UNKNOWN);
        CHECKS.same("pool", it.pool(0, 0), InstrumentFiles.UNKNOWN);
        CHECKS.same("kind", it.kind(0, 0, 0), InstrumentFiles.UNKNOWN);
        CHECKS.same("call", it.call(1, 0, 0, 0, 9), InstrumentFiles.UNKNOWN);
        CHECKS.same("the latest CALL is still told", it.told(1), 2);
        CHECKS.same("and what it gave", it.result(), FileRow.bits(1.5));
        it.alter(0, 1);
        CHECKS.same("read of the sound one", it.read(), 2);
        CHECKS.same("fault", it.fault(), 0);
    }

    /** The FILE that was read does not change with THE TAPE. */
    private static void theTapeMayChange() {
        InstrumentFiles it = FileRow.fed(sample());
        it.read();
        for (int i = 0; i <= LAST; i++) {
            it.alter(i, 255);
        }
        it.wipe();
        CHECKS.same("METHODS", it.count(1), 2);
        CHECKS.same("an entry", it.pool(2, 1), FileRow.bits(1.5));
        CHECKS.same("call", it.call(0, 0, 0, 0, 9), 1);
        CHECKS.same("result", it.result(), -2);
        CHECKS.same("fault", it.fault(), 0);
    }
}
