import java.util.Arrays;

/**
 * Each bound that Terms 1 names, for promises 7 and 8, and for 10, 11, 12 and 16 where they tell what was read:
 * the last bytes that are taken and the first that are refused, on each side.
 */
public final class EdgesOfFileTest {
    private static final Checks CHECKS = new Checks("EdgesOfFileTest");
    private static final int CUT = 1, MARK = 2, COUNT = 3, TAG = 4, LETTER = 5, NAME = 6, KIND = 7, PLACE = 8;
    private static final int SUM = 9, MORE = 10;
    private static final int I = FileRow.INT;
    private static final int D = FileRow.DOUBLE;
    private static final String[] NAMES = {"a", "b", "c", "d", "e", "f"};

    public static void main(String[] args) {
        marksAndVersion();
        poolCount();
        tags();
        bytesOfAnInt();
        bytesOfADouble();
        lengthOfAWord();
        lettersOfAWord();
        methodCount();
        nameIsAWord();
        howManyItTakes();
        kindsThatItTakes();
        kindThatItGives();
        localCount();
        stackSize();
        codeLength();
        mapCount();
        mapPlaces();
        kindsOfLocalsInMaps();
        depthOfMaps();
        kindsOfTheStackInMaps();
        sumModulo256();
        firstByteOnTheRow();
        askedAsSoonAsItIsThere();
        cutAtItsLength();
        sameLettersAsAMethodAhead();
        moreBehindTheSum();
        CHECKS.end();
    }

    private static InstrumentFiles taken(String what, FileRow row, int methods) {
        InstrumentFiles it = FileRow.fed(row.sealed());
        CHECKS.same("read of " + what, it.read(), methods);
        CHECKS.same("fault of " + what, it.fault(), 0);
        CHECKS.same("METHODS of " + what, it.count(1), methods);
        return it;
    }

    private static void refused(String what, FileRow row, int fault, int place) {
        refused(what, row.sealed(), fault, place);
    }

    private static void refused(String what, int[] row, int fault, int place) {
        InstrumentFiles it = FileRow.fed(row);
        CHECKS.same("read of " + what, it.read(), -200 - place);
        CHECKS.same("fault of " + what, it.fault(), fault);
        for (int count = 1; count <= 3; count++) {
            CHECKS.same("count(" + count + ") of " + what, it.count(count), 0);
        }
        CHECKS.same("method of " + what, it.method(0, 0), InstrumentFiles.UNKNOWN);
        CHECKS.same("pool of " + what, it.pool(0, 0), InstrumentFiles.UNKNOWN);
        CHECKS.same("kind of " + what, it.kind(0, 0, 0), InstrumentFiles.UNKNOWN);
        CHECKS.same("call of " + what, it.call(0, 0, 0, 0, 1), InstrumentFiles.UNKNOWN);
        CHECKS.same("THE TAPE of " + what, it.count(0), row.length);
    }

    /** Of one entry, the WORD a, and one METHOD of that NAME; its bytes from 8 on. */
    private static FileRow headed() {
        return FileRow.of(1).pool(1).word("a").methods(1);
    }

    private static void marksAndVersion() {
        CHECKS.about("Terms 1", "73, 78, a VERSION 1 or 2");
        for (int version : new int[] {1, 2}) {
            FileRow row = FileRow.of(version).pool(1).word("a").methods(1).endless(0);
            CHECKS.same("count(3)", taken("VERSION " + version, row, 1).count(3), version);
        }
        for (int value : new int[] {0, 3, 129, 255}) {
            refused("VERSION " + value, headed().endless(0).set(2, value), MARK, 2);
        }
        for (int value : new int[] {0, 72, 74, 78, 255}) {
            refused("73 as " + value, headed().endless(0).set(0, value), MARK, 0);
        }
        for (int value : new int[] {0, 73, 77, 79, 255}) {
            refused("78 as " + value, headed().endless(0).set(1, value), MARK, 1);
        }
    }

    private static FileRow ofEntries(int entries) {
        FileRow row = FileRow.of(1).pool(entries);
        for (int e = 0; e < entries; e++) {
            if (e == entries - 1) {
                row.word("a");
            } else {
                row.anInt(e);
            }
        }
        return row.methods(1).endless(Math.max(0, entries - 1));
    }

    private static void poolCount() {
        CHECKS.about("Terms 1", "A byte p (0 .. 16): as many POOL entries, from 0 on");
        for (int entries : new int[] {1, 2, 15, 16}) {
            InstrumentFiles it = taken(entries + " entries", ofEntries(entries), 1);
            CHECKS.same("count(2)", it.count(2), entries);
            CHECKS.same("the last TAG", it.pool(entries - 1, 0), 3);
            CHECKS.same("behind the last", it.pool(entries, 0), InstrumentFiles.UNKNOWN);
            for (int e = 0; e < entries - 1; e++) {
                CHECKS.same("entry " + e, it.pool(e, 1), e);
            }
        }
        refused("no entries: p is taken, then no NAME can be", ofEntries(0), NAME, 5);
        refused("17 entries", ofEntries(17), COUNT, 3);
        refused("255 for one entry", ofEntries(1).set(3, 255), COUNT, 3);
    }

    private static void tags() {
        CHECKS.about("Terms 1", "a TAG; 1: an INT, 4 bytes, the highest first; 2: a DOUBLE, its bits, 8 bytes likewise; "
            + "3: a WORD");
        CHECKS.same("1", taken("TAG 1", FileRow.of(1).pool(2).anInt(5).word("a").methods(1).endless(1), 1).pool(0, 0), 1);
        CHECKS.same("2", taken("TAG 2", FileRow.of(1).pool(2).aDouble(5).word("a").methods(1).endless(1), 1).pool(0, 0),
            2);
        CHECKS.same("3", taken("TAG 3", FileRow.of(1).pool(2).word("b").word("a").methods(1).endless(1), 1).pool(0, 0),
            3);
        for (int tag : new int[] {0, 4, 255}) {
            refused("a first TAG " + tag, FileRow.of(1).pool(2).anInt(5).word("a").methods(1).endless(1).set(4, tag), TAG,
                4);
            refused("a second TAG " + tag, FileRow.of(1).pool(2).anInt(5).word("a").methods(1).endless(1).set(9, tag),
                TAG, 9);
            refused("a last TAG " + tag, ofEntries(16).set(4 + 15 * 5, tag), TAG, 4 + 15 * 5);
        }
    }

    private static void bytesOfAnInt() {
        CHECKS.about("Terms 1", "an INT, 4 bytes, the highest first");
        int[] values = {0, 1, -1, 0x01020304, 0x80000000, 0x7fffffff, 0x00ffffff, 0xff000000, 128, 255, 256};
        for (int value : values) {
            FileRow row = FileRow.of(1).pool(2).anInt(value).word("a").methods(1).endless(1);
            CHECKS.same("pool(0, 1)", taken("the INT " + value, row, 1).pool(0, 1), value);
        }
        FileRow row = FileRow.of(1).pool(1).add(1, 9, 8, 7, 6);
        for (int bytes = 0; bytes < 4; bytes++) {
            refused(bytes + " of 4 bytes", Arrays.copyOf(row.sealed(), 5 + bytes), CUT, 5 + bytes);
        }
    }

    private static void bytesOfADouble() {
        CHECKS.about("Terms 1", "2: a DOUBLE, its bits, 8 bytes likewise");
        long[] values = {0, 1, 0x0102030405060708L, Long.MIN_VALUE, Long.MAX_VALUE, -1, 0x7ff0000000000000L,
            0xfff0000000000000L, 0x7ff0000000000001L, 0x00ffffffffffffffL, 0x3ff0000000000000L};
        for (long value : values) {
            FileRow row = FileRow.of(1).pool(2).doubleBits(value).word("a").methods(1).endless(1);
            boolean noNumber = Double.isNaN(Double.longBitsToDouble(value));
            CHECKS.same("pool(0, 1)", taken("the DOUBLE " + value, row, 1).pool(0, 1),
                noNumber ? 9221120237041090560L : value);
        }
        FileRow row = FileRow.of(1).pool(1).add(2, 9, 8, 7, 6, 5, 4, 3, 2);
        for (int bytes = 0; bytes < 8; bytes++) {
            refused(bytes + " of 8 bytes", Arrays.copyOf(row.sealed(), 5 + bytes), CUT, 5 + bytes);
        }
    }

    private static void lengthOfAWord() {
        CHECKS.about("Terms 1", "3: a WORD: a byte n (1 .. 8) and n letters");
        String letters = "abcdefghi";
        for (int n = 1; n <= 8; n++) {
            FileRow row = FileRow.of(1).pool(1).word(letters.substring(0, n)).methods(1).endless(0);
            CHECKS.same("pool(0, 1)", taken(n + " letters", row, 1).pool(0, 1), n);
        }
        refused("9 letters", FileRow.of(1).pool(1).word(letters).methods(1).endless(0), COUNT, 5);
        refused("no letters", FileRow.of(1).pool(1).word("").methods(1).endless(0), COUNT, 5);
        refused("255 letters", FileRow.of(1).pool(1).word("a").methods(1).endless(0).set(5, 255), COUNT, 5);
    }

    private static void lettersOfAWord() {
        CHECKS.about("Terms 1", "n letters (a .. z)");
        for (String word : new String[] {"a", "z", "az", "za", "aaaaaaaa", "zzzzzzzz", "azazazaz"}) {
            taken(word, FileRow.of(1).pool(1).word(word).methods(1).endless(0), 1);
        }
        for (int letter : new int[] {96, 123, 0, 255, 'A', 'Z', ' '}) {
            refused("a letter " + letter, FileRow.of(1).pool(1).word("a").methods(1).endless(0).set(6, letter), LETTER, 6);
            FileRow first = FileRow.of(1).pool(1).word("abcdefgh").methods(1).endless(0).set(6, letter);
            refused("a first letter " + letter, first, LETTER, 6);
            FileRow last = FileRow.of(1).pool(1).word("abcdefgh").methods(1).endless(0).set(13, letter);
            refused("an eighth letter " + letter, last, LETTER, 13);
        }
    }

    private static FileRow ofMethods(int methods) {
        FileRow row = FileRow.of(1).pool(6);
        for (String name : NAMES) {
            row.word(name);
        }
        row.methods(methods);
        for (int m = 0; m < methods; m++) {
            row.endless(m);
        }
        return row;
    }

    private static void methodCount() {
        CHECKS.about("Terms 1", "A byte m (1 .. 5): as many METHODS, from 0 on");
        for (int methods = 1; methods <= 5; methods++) {
            InstrumentFiles it = taken(methods + " METHODS", ofMethods(methods), methods);
            for (int m = 0; m < methods; m++) {
                CHECKS.same("the NAME of METHOD " + m, it.method(m, 6), m);
            }
            CHECKS.same("behind the last", it.method(methods, 6), InstrumentFiles.UNKNOWN);
        }
        refused("no METHODS", ofMethods(0), COUNT, 22);
        refused("6 METHODS", ofMethods(6), COUNT, 22);
        refused("255 for one METHOD", ofMethods(1).set(22, 255), COUNT, 22);
    }

    private static void nameIsAWord() {
        CHECKS.about("Terms 1", "a byte: its NAME, a POOL entry that is a WORD");
        CHECKS.about("Terms 1", "6 NAME: no such entry, no WORD");
        CHECKS.same("NAME 0", taken("the first entry", headed().endless(0), 1).method(0, 6), 0);
        CHECKS.same("NAME 15", taken("the last of 16", ofEntries(16), 1).method(0, 6), 15);
        refused("the entry behind the last", headed().endless(1), NAME, 8);
        refused("the entry behind the last of 16", ofEntries(16).set(4 + 15 * 5 + 4, 16), NAME, 4 + 15 * 5 + 4);
        refused("no such entry, by far", headed().endless(255), NAME, 8);
        refused("an INT", FileRow.of(1).pool(2).anInt(5).word("a").methods(1).endless(0), NAME, 13);
        refused("a DOUBLE", FileRow.of(1).pool(2).aDouble(5).word("a").methods(1).endless(0), NAME, 17);
    }

    /** The METHOD goes round for ever; its bytes: NAME 8, n 9, the KINDS from 10 on. */
    private static FileRow taking(int gives, int locals, int... kinds) {
        FileRow row = headed().head(0, gives, locals, 1, kinds).code(19, 0).maps(1).add(0);
        for (int l = 0; l < locals; l++) {
            row.add(0);
        }
        return row.add(0);
    }

    private static void howManyItTakes() {
        CHECKS.about("Terms 1", "a byte n (0 .. 3) and n KINDS that it TAKES (1 INT, 2 DOUBLE)");
        int[][] kinds = {{}, {I}, {D, I}, {I, D, D}};
        for (int n = 0; n <= 3; n++) {
            InstrumentFiles it = taken("n " + n, taking(I, 6, kinds[n]), 1);
            CHECKS.same("method(0, 0)", it.method(0, 0), n);
            for (int arity = 0; arity < 3; arity++) {
                // The MAP at 0 forgets the LOCALS, so they are asked of a METHOD without one.
                InstrumentFiles other = taken("n " + n, headed().head(0, I, 6, 1, kinds[n]).code(0, 19, 1).maps(1)
                    .add(1, 0, 0, 0, 0, 0, 0, 0), 1);
                CHECKS.same("LOCAL " + arity, other.kind(0, 0, -1 - arity), arity < n ? kinds[n][arity] : 0);
            }
        }
        refused("n 4", taking(I, 6, I, I, I, I), COUNT, 9);
        refused("n 255", taking(I, 6, I).set(9, 255), COUNT, 9);
    }

    private static void kindsThatItTakes() {
        CHECKS.about("Terms 1", "n KINDS that it TAKES (1 INT, 2 DOUBLE)");
        for (int place = 0; place < 3; place++) {
            for (int kind : new int[] {1, 2}) {
                taken("KIND " + kind, taking(I, 3, I, D, I).set(10 + place, kind), 1);
            }
            for (int kind : new int[] {0, 3, 255}) {
                refused("KIND " + kind, taking(I, 3, I, D, I).set(10 + place, kind), KIND, 10 + place);
            }
        }
    }

    private static void kindThatItGives() {
        CHECKS.about("Terms 1", "a KIND that it GIVES");
        CHECKS.same("method(0, 1)", taken("an INT", taking(1, 0), 1).method(0, 1), 1);
        CHECKS.same("method(0, 1)", taken("a DOUBLE", taking(2, 0), 1).method(0, 1), 2);
        for (int kind : new int[] {0, 3, 255}) {
            refused("KIND " + kind, taking(kind, 0), KIND, 10);
            refused("KIND " + kind, taking(kind, 3, I, I, I), KIND, 13);
        }
    }

    private static void localCount() {
        CHECKS.about("Terms 1", "a byte: how many LOCALS (n .. 6)");
        int[][] kinds = {{}, {I}, {I, I}, {I, I, I}};
        for (int n = 0; n <= 3; n++) {
            for (int locals = 0; locals <= 8; locals++) {
                String what = locals + " LOCALS of a METHOD that TAKES " + n;
                FileRow row = taking(I, locals, kinds[n]);
                if (locals >= n && locals <= 6) {
                    CHECKS.same("method(0, 2)", taken(what, row, 1).method(0, 2), locals);
                } else {
                    refused(what, row, COUNT, 11 + n);
                }
            }
            refused("LOCALS 255", taking(I, n, kinds[n]).set(11 + n, 255), COUNT, 11 + n);
        }
    }

    private static void stackSize() {
        CHECKS.about("Terms 1", "a byte STACK (1 .. 6)");
        for (int stack = 1; stack <= 6; stack++) {
            CHECKS.same("method(0, 3)", taken("STACK " + stack, taking(I, 0).set(12, stack), 1).method(0, 3), stack);
        }
        for (int stack : new int[] {0, 7, 255}) {
            refused("STACK " + stack, taking(I, 0).set(12, stack), COUNT, 12);
        }
    }

    /** L bytes of CODE, of which the last two go round for ever. */
    private static FileRow ofLength(int length) {
        int[] code = new int[length];
        if (length >= 2) {
            code[length - 2] = 19;
            code[length - 1] = length - 2;
        }
        return headed().head(0, I, 0, 1).code(code).maps(1).add(Math.max(0, length - 2), 0);
    }

    private static void codeLength() {
        CHECKS.about("Terms 1", "a byte L (1 .. 48), and L bytes of CODE");
        for (int length : new int[] {2, 3, 47, 48}) {
            CHECKS.same("method(0, 4)", taken("L " + length, ofLength(length), 1).method(0, 4), length);
        }
        // No CODE of one byte is sound, so what is refused is the CODE, and not L.
        InstrumentFiles one = FileRow.fed(ofLength(1).sealed());
        CHECKS.same("read of L 1", one.read(), -1000);
        CHECKS.same("fault of L 1", one.fault(), 13);
        refused("L 0", ofLength(0), COUNT, 13);
        refused("L 49", ofLength(49), COUNT, 13);
        refused("L 255", ofLength(2).set(13, 255), COUNT, 13);
    }

    /** A MAP at each of the first places. */
    private static FileRow ofMaps(int maps) {
        int[] code = new int[20];
        code[18] = 19;
        FileRow row = headed().head(0, I, 0, 1).code(code).maps(maps);
        for (int i = 0; i < maps; i++) {
            row.add(i, 0);
        }
        return row;
    }

    private static void mapCount() {
        CHECKS.about("Terms 1", "a byte k (0 .. 8) and as many MAPS");
        for (int maps : new int[] {1, 2, 7, 8}) {
            CHECKS.same("method(0, 5)", taken(maps + " MAPS", ofMaps(maps), 1).method(0, 5), maps);
        }
        FileRow none = FileRow.of(1).pool(2).word("a").anInt(5).methods(1).head(0, I, 0, 1).code(1, 1, 22).maps(0);
        CHECKS.same("method(0, 5)", taken("no MAPS", none, 1).method(0, 5), 0);
        refused("9 MAPS", ofMaps(9), COUNT, 34);
        refused("255 MAPS", ofMaps(1).set(34, 255), COUNT, 34);
    }

    /** Twenty places, of which the last two OPS push an INT and give it back; the MAPS tell what is there. */
    private static FileRow placed(int... places) {
        int[] code = new int[20];
        code[17] = 1;
        code[18] = 1;
        code[19] = 22;
        FileRow row = FileRow.of(1).pool(2).word("a").anInt(5).methods(1).head(0, I, 0, 1).code(code).maps(places.length);
        for (int place : places) {
            row.add(place);
            if (place == 19) {
                row.add(1, I);
            } else {
                row.add(0);
            }
        }
        return row;
    }

    private static void mapPlaces() {
        CHECKS.about("Terms 1", "a byte PLACE (of the CODE, below L, above that of the MAP before)");
        int first = 40;
        taken("PLACE 0", placed(0), 1);
        taken("PLACE L - 1", placed(19), 1);
        taken("PLACE 0 and L - 1", placed(0, 19), 1);
        taken("one above the one before", placed(0, 1, 2, 16, 17), 1);
        refused("PLACE L", placed(20), PLACE, first);
        refused("PLACE 255", placed(255), PLACE, first);
        refused("PLACE L as the second", placed(19, 20), PLACE, first + 3);
        refused("the one before again", placed(4, 4), PLACE, first + 2);
        refused("0 again", placed(0, 0), PLACE, first + 2);
        refused("one below the one before", placed(4, 3), PLACE, first + 2);
        refused("back at the third", placed(4, 9, 9), PLACE, first + 4);
        refused("above the first, not above the second", placed(4, 9, 5), PLACE, first + 4);
        FileRow two = FileRow.of(1).pool(2).word("a").word("b").methods(2).endless(0).endless(1);
        taken("PLACE 0 in the next METHOD, too", two, 2);
    }

    /** A METHOD of six LOCALS and STACK 6 whose second MAP, at place 2, may hold anything: none is AT HAND there. */
    private static FileRow free(int[] locals, int... stack) {
        return headed().head(0, I, 6, 6).code(19, 0, 0, 19, 2).maps(2).add(0, 0, 0, 0, 0, 0, 0, 0)
            .add(2).add(locals).add(stack.length).add(stack);
    }

    /** Where the bytes of the second MAP of free() begin, its PLACE being the first. */
    private static final int SECOND = 8 + 5 + 6 + 1 + 8;

    private static void kindsOfLocalsInMaps() {
        CHECKS.about("Terms 1", "for each LOCAL 0 (nothing) or its KIND");
        for (int l = 0; l < 6; l++) {
            for (int kind = 0; kind <= 2; kind++) {
                int[] locals = new int[6];
                locals[l] = kind;
                InstrumentFiles it = taken("LOCAL " + l + ": " + kind, free(locals), 1);
                for (int i = 0; i < 6; i++) {
                    CHECKS.same("kind of LOCAL " + i, it.kind(0, 2, -1 - i), i == l ? kind : 0);
                }
            }
            for (int kind : new int[] {3, 4, 255}) {
                FileRow row = free(new int[6]).set(SECOND + 1 + l, kind);
                refused("LOCAL " + l + ": " + kind, row, KIND, SECOND + 1 + l);
            }
        }
        CHECKS.same("of no LOCALS there is no byte", taken("no LOCALS", headed().endless(0), 1).method(0, 2), 0);
    }

    private static void depthOfMaps() {
        CHECKS.about("Terms 1", "a byte d (0 .. STACK) and d KINDS, the lowest first");
        int[] most = {I, D, I, I, D, D, D, D};
        for (int stack = 1; stack <= 6; stack++) {
            for (int d = 0; d <= stack + 1; d++) {
                String what = "d " + d + " at STACK " + stack;
                FileRow row = free(new int[6], Arrays.copyOf(most, d)).set(12, stack);
                if (d <= stack) {
                    InstrumentFiles it = taken(what, row, 1);
                    for (int k = 0; k <= 5; k++) {
                        CHECKS.same("item " + k, it.kind(0, 2, k), k < d ? most[k] : 0);
                    }
                } else {
                    refused(what, row, COUNT, SECOND + 7);
                }
            }
        }
        refused("d 255", free(new int[6]).set(SECOND + 7, 255), COUNT, SECOND + 7);
    }

    private static void kindsOfTheStackInMaps() {
        CHECKS.about("Terms 1", "d KINDS, the lowest first");
        for (int d = 0; d < 6; d++) {
            for (int kind : new int[] {0, 3, 255}) {
                FileRow row = free(new int[6], I, D, I, D, I, D).set(SECOND + 8 + d, kind);
                refused("item " + d + ": " + kind, row, KIND, SECOND + 8 + d);
            }
            for (int kind : new int[] {1, 2}) {
                FileRow row = free(new int[6], I, D, I, D, I, D).set(SECOND + 8 + d, kind);
                CHECKS.same("item " + d, taken("item " + d, row, 1).kind(0, 2, d), kind);
            }
        }
    }

    private static void sumModulo256() {
        CHECKS.about("Terms 1", "Then a byte SUM: all bytes ahead of it, added, modulo 256.");
        int[] sums = new int[256];
        for (int low = 0; low < 256; low++) {
            FileRow row = FileRow.of(1).pool(2).word("a").anInt(low).methods(1).endless(0);
            int[] bytes = row.sealed();
            int last = bytes.length - 1;
            sums[bytes[last]]++;
            CHECKS.same("read with SUM " + bytes[last], FileRow.fed(bytes).read(), 1);
            for (int off : new int[] {1, 255, 128}) {
                int[] wrong = bytes.clone();
                wrong[last] = (bytes[last] + off) % 256;
                refused("SUM " + wrong[last] + " for " + bytes[last], wrong, SUM, last);
            }
        }
        for (int sum = 0; sum < 256; sum++) {
            CHECKS.same("rows with SUM " + sum, sums[sum], 1);
        }
    }

    private static void firstByteOnTheRow() {
        CHECKS.about("Terms 1", "FAULTS 1 to 10, the first byte on the row that cannot stand there");
        CHECKS.about("Terms 1", "2 MARK: 73, 78, VERSION. 3 COUNT: p, n, m, LOCALS, STACK, L, k, d are not as told. 4 TAG. "
            + "5 LETTER. 6 NAME: no such entry, no WORD; or the same letters as the NAME of a METHOD ahead. 7 KIND. 8 PLACE. "
            + "9 SUM.");
        // Each of these bytes is wrong as 255, and each later one comes first once those ahead are right.
        int[] places = {0, 1, 2, 3, 4, 5, 6, 7, 8, 9, 10, 11, 12, 13, 16, 17, 18};
        int[] faults = {MARK, MARK, MARK, COUNT, TAG, COUNT, LETTER, COUNT, NAME, COUNT, KIND, COUNT, COUNT, COUNT, COUNT,
            PLACE, COUNT};
        for (int first = 0; first < places.length; first++) {
            FileRow row = headed().endless(0);
            for (int i = first; i < places.length; i++) {
                row.set(places[i], 255);
            }
            refused("255 from " + places[first], row, faults[first], places[first]);
        }
        int[] bytes = headed().endless(0).sealed();
        int[] longer = Arrays.copyOf(bytes, bytes.length + 1);
        longer[bytes.length - 1] ^= 1;
        refused("SUM wrong and one more", longer, SUM, bytes.length - 1);
    }

    private static void askedAsSoonAsItIsThere() {
        CHECKS.about("Terms 1", "what it tells is asked as soon as it is there");
        refused("p 17 as the last byte", new int[] {73, 78, 1, 17}, COUNT, 3);
        refused("p 16 as the last byte", new int[] {73, 78, 1, 16}, CUT, 4);
        refused("a TAG as the last byte", new int[] {73, 78, 1, 1, 4}, TAG, 4);
        refused("n of a WORD", new int[] {73, 78, 1, 1, 3, 9}, COUNT, 5);
        refused("a letter", new int[] {73, 78, 1, 1, 3, 2, 96}, LETTER, 6);
        refused("m", new int[] {73, 78, 1, 0, 6}, COUNT, 4);
        refused("a NAME of no entry", new int[] {73, 78, 1, 0, 1, 0}, NAME, 5);
        int[] row = {73, 78, 1, 1, 3, 1, 'a', 2, 0, 0, 1, 0, 1, 2, 19, 0, 1, 0, 0, 0};
        refused("the NAME of the METHOD ahead", row, NAME, 19);
        refused("LOCALS fewer than it TAKES", new int[] {73, 78, 1, 1, 3, 1, 'a', 1, 0, 1, 1, 1, 0}, COUNT, 12);
        refused("PLACE L", new int[] {73, 78, 1, 1, 3, 1, 'a', 1, 0, 0, 1, 0, 1, 2, 19, 0, 1, 2}, PLACE, 17);
        refused("d above STACK", new int[] {73, 78, 1, 1, 3, 1, 'a', 1, 0, 0, 1, 0, 1, 2, 19, 0, 1, 0, 2}, COUNT, 18);
        refused("another SUM", new int[] {73, 78, 1, 1, 3, 1, 'a', 1, 0, 0, 1, 0, 1, 2, 19, 0, 1, 0, 0, 0}, SUM, 19);
    }

    private static void cutAtItsLength() {
        CHECKS.about("Terms 1", "1 CUT: the row ends (at its length).");
        int[] row = free(new int[6], I, D).sealed();
        CHECKS.same("read of the whole", FileRow.fed(row).read(), 1);
        for (int length = 0; length < row.length; length++) {
            refused("the first " + length, Arrays.copyOf(row, length), CUT, length);
        }
        refused("the empty row", new int[0], CUT, 0);
        refused("the 500 first of 501", Arrays.copyOf(long501(), 500), CUT, 500);
    }

    private static void sameLettersAsAMethodAhead() {
        CHECKS.about("Terms 1", "or the same letters as the NAME of a METHOD ahead");
        String[][] pairs = {{"ab", "ab", "same"}, {"a", "a", "same"}, {"abcdefgh", "abcdefgh", "same"},
            {"ab", "abc", ""}, {"abc", "ab", ""}, {"a", "aa", ""}, {"ab", "ba", ""}, {"abcdefgh", "abcdefgi", ""},
            {"abcdefgh", "bbcdefgh", ""}, {"abcdefg", "abcdefgh", ""}};
        for (String[] pair : pairs) {
            FileRow row = FileRow.of(1).pool(3).word(pair[0]).word(pair[1]).word("q").methods(2);
            int place = row.endless(0).size();
            row.endless(1);
            if (pair[2].isEmpty()) {
                taken(pair[0] + " and " + pair[1], row, 2);
            } else {
                refused(pair[0] + " and " + pair[1], row, NAME, place);
            }
        }
        FileRow unused = FileRow.of(1).pool(2).word("a").word("a").methods(1).endless(1);
        taken("letters twice, but one NAME", unused, 1);
        for (int ahead = 0; ahead < 4; ahead++) {
            int fifth = 23 + 4 * 11;
            refused("the fifth as METHOD " + ahead, ofMethods(5).set(fifth, ahead), NAME, fifth);
        }
        refused("the second as the first", ofMethods(5).set(23 + 11, 0), NAME, 23 + 11);
        taken("the fifth as none ahead", ofMethods(5).set(23 + 4 * 11, 5), 5);
    }

    /** Of 501 bytes: five METHODS, three of 119 bytes, one of 61, one of 62. */
    private static int[] long501() {
        return longRow(46, 47);
    }

    /** 500 bytes if the last two METHODS have 92 places together. */
    private static int[] longRow(int fourth, int fifth) {
        FileRow row = FileRow.of(2).pool(5);
        for (int m = 0; m < 5; m++) {
            row.word(NAMES[m]);
        }
        row.methods(5);
        for (int m = 0; m < 5; m++) {
            int[] code = new int[m == 3 ? fourth : m == 4 ? fifth : 48];
            code[code.length - 2] = 19;
            row.head(m, I, 6, 1).code(code).maps(m < 3 ? 8 : 1);
            for (int i = 0; i < (m < 3 ? 8 : 1); i++) {
                row.add(i, 0, 0, 0, 0, 0, 0, 0);
            }
        }
        return row.sealed();
    }

    private static void moreBehindTheSum() {
        CHECKS.about("Terms 1", "10 MORE: a byte behind SUM.");
        int[] row = headed().endless(0).sealed();
        CHECKS.same("none behind", FileRow.fed(row).read(), 1);
        for (int more = 1; more <= 3; more++) {
            refused(more + " behind", Arrays.copyOf(row, row.length + more), MORE, row.length);
        }
        int[] full = longRow(46, 46);
        CHECKS.same("a FILE as long as THE TAPE", full.length, 500);
        CHECKS.same("read of it", FileRow.fed(full).read(), 5);
        int[] less = longRow(46, 45);
        CHECKS.same("read of one byte less", FileRow.fed(less).read(), 5);
        refused("499 bytes and one", Arrays.copyOf(less, 500), MORE, 499);
    }
}
