/** Promises 7 and 8 as they follow from CODE, its FAULTS 11 to 18, and promise 12. */
public final class JudgeTest {
    private static final Checks CHECKS = new Checks("JudgeTest");
    private static final int MAP = 11, OP = 12, SHORT = 13, ENTRY = 14, UNDER = 15, KIND = 16, OVER = 17, JUMP = 18;
    private static final int I = FileRow.INT;
    private static final int D = FileRow.DOUBLE;

    public static void main(String[] args) {
        soundOnes();
        mapMustFit();
        noMapWhereNoneIsAtHand();
        mapWhereNoOpBegins();
        noSuchOp();
        tooShort();
        entries();
        listedWords();
        stackTooFew();
        kindsOfWhatIsTaken();
        kindsOfLocalsAndOfWhatIsGiven();
        calledMethods();
        stackAbove();
        jumps();
        theFirstOfThem();
        methodByMethod();
        kindsAsJudged();
        kindsBehindMaps();
        CHECKS.end();
    }

    /** Entries: 0 main (the NAME), 1 an INT, 2 a DOUBLE, 3 abs, 4 nothing (no WORD of the list). */
    private static FileRow pool() {
        return FileRow.of(1).pool(5).word("main").anInt(6).aDouble(0.5).word("abs").word("nothing");
    }

    /** A FILE of one METHOD that TAKES an INT and a DOUBLE, with three LOCALS and the maps' bytes, in rows. */
    private static InstrumentFiles one(int gives, int stack, int[] code, int[]... maps) {
        FileRow row = pool().methods(1).head(0, gives, 3, stack, I, D).code(code).maps(maps.length);
        for (int[] map : maps) {
            row.add(map);
        }
        return FileRow.fed(row.sealed());
    }

    private static int[] code(int... code) {
        return code;
    }

    private static int[] map(int... bytes) {
        return bytes;
    }

    private static void sound(String what, InstrumentFiles it) {
        CHECKS.same("read of " + what, it.read(), 1);
        CHECKS.same("fault of " + what, it.fault(), 0);
    }

    private static void refused(String what, InstrumentFiles it, int fault, int place) {
        CHECKS.same("read of " + what, it.read(), -1000 - place);
        CHECKS.same("fault of " + what, it.fault(), fault);
        CHECKS.same("METHODS of " + what, it.count(1), 0);
        CHECKS.same("kind of " + what, it.kind(0, 0, 0), InstrumentFiles.UNKNOWN);
    }

    private static void soundOnes() {
        sound("what it takes", one(I, 1, code(3, 0, 22)));
        sound("more on the STACK than is given", one(I, 2, code(3, 1, 3, 0, 22)));
        sound("the STACK up to its end", one(I, 6, code(3, 0, 5, 5, 5, 5, 5, 22)));
        sound("what is not gone through", one(I, 1, code(3, 0, 22, 0, 22), map(3, 0, 0, 0, 1, I)));
        sound("a LOCAL that takes another KIND", one(D, 1, code(3, 1, 4, 0, 3, 0, 22)));
        sound("a LOCAL that was nothing", one(D, 1, code(3, 1, 4, 2, 3, 2, 22)));
        sound("an endless round", one(I, 1, code(19, 0), map(0, 0, 0, 0, 0)));
        sound("19 as the last", one(I, 1, code(0, 19, 0), map(0, I, D, 0, 0)));
    }

    private static void mapMustFit() {
        refused("a MAP too deep", one(I, 2, code(0, 3, 0, 22), map(1, 0, 0, 0, 1, I)), MAP, 1);
        refused("a MAP not as deep", one(I, 2, code(3, 0, 3, 0, 22), map(2, 0, 0, 0, 0)), MAP, 2);
        refused("another KIND on the STACK", one(I, 2, code(3, 0, 0, 22), map(2, 0, 0, 0, 1, D)), MAP, 2);
        refused("another KIND below", one(I, 2, code(3, 1, 3, 0, 0, 22), map(4, 0, 0, 0, 2, I, I)), MAP, 4);
        refused("KINDS the wrong way round", one(I, 2, code(3, 1, 3, 0, 0, 22), map(4, 0, 0, 0, 2, I, D)), MAP, 4);
        sound("KINDS the right way round", one(I, 2, code(3, 1, 3, 0, 0, 22), map(4, 0, 0, 0, 2, D, I)));
        refused("another KIND of LOCAL 0", one(I, 2, code(3, 0, 22), map(0, D, 0, 0, 0)), MAP, 0);
        refused("another KIND of LOCAL 1", one(I, 2, code(3, 0, 22), map(0, I, I, 0, 0)), MAP, 0);
        refused("a KIND where there is nothing", one(I, 2, code(3, 0, 22), map(0, I, D, I, 0)), MAP, 0);
        sound("the KINDS that it TAKES", one(I, 2, code(3, 0, 22), map(0, I, D, 0, 0)));
        refused("what the MAP no longer tells", one(I, 2, code(3, 0, 22), map(0, 0, D, 0, 0)), KIND, 0);
    }

    private static void noMapWhereNoneIsAtHand() {
        refused("no MAP behind 22", one(I, 1, code(3, 0, 22, 3, 0, 22)), MAP, 3);
        refused("no MAP behind 19", one(I, 1, code(19, 3, 0, 3, 0, 22), map(3, I, 0, 0, 0)), MAP, 2);
        sound("a MAP behind 22", one(I, 1, code(3, 0, 22, 3, 2, 22), map(3, 0, 0, I, 0)));
        sound("AT HAND behind 20", one(I, 1, code(3, 0, 20, 0, 3, 0, 22), map(0, I, 0, 0, 0)));
        refused("no MAP before no such OP", one(I, 1, code(3, 0, 22, 99)), MAP, 3);
        sound("AT HAND once more behind a MAP", one(I, 2, code(3, 0, 22, 0, 0, 22), map(3, 0, 0, 0, 1, I)));
    }

    private static void mapWhereNoOpBegins() {
        refused("a MAP on a byte that follows", one(I, 1, code(3, 0, 22), map(1, 0, 0, 0, 0)), MAP, 1);
        refused("the first such", one(I, 1, code(3, 0, 4, 0, 3, 0, 22), map(1, 0, 0, 0, 0), map(2, 0, 0, 0, 1, I),
            map(3, 0, 0, 0, 0), map(5, 0, 0, 0, 0)), MAP, 1);
        refused("one behind one that has an OP", one(I, 1, code(3, 0, 4, 0, 3, 0, 22), map(2, 0, 0, 0, 1, I),
            map(3, 0, 0, 0, 0)), MAP, 3);
        refused("once the METHOD is gone through", one(I, 1, code(3, 0, 6, 6, 3, 0, 22), map(1, 0, 0, 0, 0)), UNDER, 3);
        refused("also where it is jumped to", one(I, 1, code(19, 3, 3, 0, 22), map(1, I, 0, 0, 0),
            map(2, I, 0, 0, 0), map(3, I, 0, 0, 0)), MAP, 1);
    }

    private static void noSuchOp() {
        for (int op = 25; op < 256; op++) {
            refused("OP " + op, one(I, 1, code(op, 0, 0)), OP, 0);
        }
        refused("OP 25 as the last", one(I, 1, code(3, 0, 25)), OP, 2);
    }

    private static void tooShort() {
        int[] withByte = {1, 2, 3, 4, 19, 20, 21, 24};
        for (int op : withByte) {
            refused("OP " + op + " without its byte", one(I, 1, code(0, op)), SHORT, 1);
        }
        int[] goOn = {0, 5, 6, 7, 8, 9, 10, 11, 12, 13, 14, 15, 16, 17, 18, 23};
        for (int op : goOn) {
            refused("OP " + op + " as the last", one(I, 1, code(op)), SHORT, 0);
        }
        for (int op : new int[] {1, 2, 3, 4, 20, 21, 24}) {
            refused("OP " + op + " as the last", one(I, 1, code(op, 0)), SHORT, 0);
        }
        sound("22 as the last", one(I, 1, code(3, 0, 22)));
        refused("22 as the last, with nothing", one(I, 1, code(22)), UNDER, 0);
        refused("19 as the last, to nowhere", one(I, 1, code(19, 9)), JUMP, 0);
    }

    private static void entries() {
        sound("1 of an INT", one(I, 1, code(1, 1, 22)));
        sound("2 of a DOUBLE", one(D, 1, code(2, 2, 22)));
        for (int e : new int[] {0, 2, 3, 4, 5, 16, 255}) {
            refused("1 of " + e, one(I, 1, code(1, e, 22)), ENTRY, 0);
        }
        for (int e : new int[] {0, 1, 3, 4, 5, 16, 255}) {
            refused("2 of " + e, one(D, 1, code(2, e, 22)), ENTRY, 0);
        }
        for (int l : new int[] {3, 6, 255}) {
            refused("3 of " + l, one(I, 1, code(3, l, 22)), ENTRY, 0);
            refused("4 of " + l, one(I, 1, code(4, l, 22)), ENTRY, 0);
        }
        for (int e : new int[] {0, 1, 2, 4, 5, 255}) {
            refused("24 of " + e, one(D, 1, code(24, e, 22)), ENTRY, 0);
        }
        for (int m : new int[] {1, 5, 255}) {
            refused("21 of " + m, one(I, 1, code(21, m, 22)), ENTRY, 0);
        }
        sound("24 of abs", one(D, 1, code(3, 1, 24, 3, 22)));
    }

    private static void listedWords() {
        String[] words = {"abs", "root", "floor", "sign", "ab", "absa", "rot", "roots", "sqrt", "flor", "floors",
            "signum", "sig", "a", "zabs", "aabs", "root", "ceil"};
        for (int i = 0; i < words.length; i++) {
            InstrumentFiles it = FileRow.fed(FileRow.of(1).pool(2).word("main").word(words[i]).methods(1)
                .head(0, D, 1, 1, D).code(3, 0, 24, 1, 22).maps(0).sealed());
            CHECKS.same("24 of " + words[i], it.read(), i < 4 || i == 16 ? 1 : -1002);
            CHECKS.same("fault", it.fault(), i < 4 || i == 16 ? 0 : ENTRY);
        }
    }

    private static void stackTooFew() {
        for (int op : new int[] {5, 6, 7, 8, 9, 10, 11, 12, 13, 14, 15, 16, 17, 18, 22, 23}) {
            refused("OP " + op + " of nothing", one(I, 1, code(op, 22)), UNDER, 0);
        }
        refused("OP 4 of nothing", one(I, 1, code(4, 0, 22)), UNDER, 0);
        refused("OP 20 of nothing", one(I, 1, code(20, 0, 22)), UNDER, 0);
        refused("OP 24 of nothing", one(I, 1, code(24, 3, 22)), UNDER, 0);
        for (int op : new int[] {7, 8, 9, 10, 17}) {
            refused("OP " + op + " of one INT", one(I, 1, code(3, 0, op, 22)), UNDER, 2);
            refused("OP " + op + " of one DOUBLE", one(I, 1, code(3, 1, op, 22)), UNDER, 2);
        }
        for (int op : new int[] {11, 12, 13, 14, 18}) {
            refused("OP " + op + " of one DOUBLE", one(I, 1, code(3, 1, op, 22)), UNDER, 2);
            refused("OP " + op + " of one INT", one(I, 1, code(3, 0, op, 22)), UNDER, 2);
        }
    }

    private static void kindsOfWhatIsTaken() {
        for (int op = 7; op <= 18; op++) {
            if (op != 15 && op != 16) {
                boolean ints = op <= 10 || op == 17;
                int right = ints ? 0 : 1;
                int pushed = op >= 11 && op <= 14 ? D : I;
                sound("OP " + op, one(pushed, 2, code(3, right, 3, right, op, 22)));
                refused("OP " + op + ", top", one(pushed, 2, code(3, right, 3, 1 - right, op, 22)), KIND, 4);
                refused("OP " + op + ", below", one(pushed, 2, code(3, 1 - right, 3, right, op, 22)), KIND, 4);
                refused("OP " + op + ", gives", one(3 - pushed, 2, code(3, right, 3, right, op, 22)), KIND, 5);
            }
        }
        int[][] singles = {{15, 0, D}, {16, 1, I}, {23, 0, D}};
        for (int[] single : singles) {
            int op = single[0];
            sound("OP " + op, one(single[2], 1, code(3, single[1], op, 22)));
            refused("OP " + op + ", top", one(single[2], 1, code(3, 1 - single[1], op, 22)), KIND, 2);
            refused("OP " + op + ", gives", one(3 - single[2], 1, code(3, single[1], op, 22)), KIND, 3);
        }
        refused("24 of an INT", one(D, 1, code(3, 0, 24, 3, 22)), KIND, 2);
        refused("24 pushes a DOUBLE", one(I, 1, code(3, 1, 24, 3, 22)), KIND, 4);
        refused("20 of a DOUBLE", one(I, 1, code(3, 1, 20, 0, 3, 0, 22), map(0, I, D, 0, 0)), KIND, 2);
        sound("5 of a DOUBLE", one(D, 2, code(3, 1, 5, 11, 22)));
        refused("5 of a DOUBLE as an INT", one(I, 2, code(3, 1, 5, 7, 22)), KIND, 3);
        sound("6 of a DOUBLE", one(I, 2, code(3, 0, 3, 1, 6, 22)));
    }

    private static void kindsOfLocalsAndOfWhatIsGiven() {
        refused("3 of nothing", one(I, 1, code(3, 2, 22)), KIND, 0);
        refused("4 leaves its KIND", one(I, 1, code(3, 1, 4, 0, 3, 0, 22)), KIND, 6);
        refused("22 of a DOUBLE", one(I, 1, code(3, 1, 22)), KIND, 2);
        refused("22 of an INT", one(D, 1, code(3, 0, 22)), KIND, 2);
        refused("1 as a DOUBLE", one(D, 1, code(1, 1, 22)), KIND, 2);
        refused("2 as an INT", one(I, 1, code(2, 2, 22)), KIND, 2);
    }

    /** METHOD 0 gives an INT and calls METHOD 1, which takes three and gives what is told. */
    private static InstrumentFiles calling(int gives, int stack, int[] code) {
        return FileRow.fed(FileRow.of(1).pool(3).word("a").word("b").aDouble(2).methods(2)
            .head(0, I, 2, stack, I, D).code(code).maps(0)
            .head(1, gives, 3, 1, I, D, D).code(3, gives == I ? 0 : 1, 22).maps(0).sealed());
    }

    private static void calledMethods() {
        int[] right = code(3, 0, 3, 1, 3, 1, 21, 1, 22);
        CHECKS.same("what it TAKES", calling(I, 3, right).read(), 2);
        refused("what it GIVES", calling(D, 3, right), KIND, 8);
        refused("21 with one too few", calling(I, 3, code(3, 1, 3, 1, 21, 1, 22)), UNDER, 4);
        refused("21 with none", calling(I, 3, code(21, 1, 22)), UNDER, 0);
        refused("21, the lowest", calling(I, 3, code(3, 1, 3, 1, 3, 1, 21, 1, 22)), KIND, 6);
        refused("21, the middle", calling(I, 3, code(3, 0, 3, 0, 3, 1, 21, 1, 22)), KIND, 6);
        refused("21, the top", calling(I, 3, code(3, 0, 3, 1, 3, 0, 21, 1, 22)), KIND, 6);
        CHECKS.same("what lies below stays", calling(I, 4, code(3, 0, 3, 0, 3, 1, 3, 1, 21, 1, 7, 22)).read(), 2);
        CHECKS.same("itself", calling(I, 2, code(3, 0, 3, 1, 21, 0, 22)).read(), 2);
        FileRow none = FileRow.of(1).pool(2).word("a").word("b").methods(2)
            .head(0, I, 1, 1, I).code(3, 0, 21, 1, 22).maps(0);
        int[] row = none.head(1, I, 1, 1).code(21, 1, 22).maps(0).sealed();
        refused("21 of a METHOD that TAKES nothing", FileRow.fed(row), OVER, 2);
    }

    private static void stackAbove() {
        refused("1", one(I, 1, code(1, 1, 1, 1, 22)), OVER, 2);
        refused("2", one(D, 1, code(2, 2, 2, 2, 22)), OVER, 2);
        refused("3", one(I, 2, code(3, 0, 3, 0, 3, 0, 22)), OVER, 4);
        refused("5", one(I, 1, code(3, 0, 5, 22)), OVER, 2);
        refused("5 at six", one(I, 6, code(3, 0, 5, 5, 5, 5, 5, 5, 22)), OVER, 7);
        sound("what is taken makes room", one(I, 2, code(3, 0, 3, 0, 7, 3, 0, 7, 22)));
        sound("15 on a full STACK", one(D, 1, code(3, 0, 15, 22)));
        sound("a MAP as deep as the STACK", one(I, 6, code(3, 0, 5, 5, 5, 5, 5, 22), map(7, 0, 0, 0, 6, I, I, I, I, I, I)));
    }

    private static void jumps() {
        for (int t : new int[] {1, 3, 5, 255}) {
            refused("19 to " + t, one(I, 1, code(19, t, 3, 0, 22), map(2, I, 0, 0, 0)), JUMP, 0);
            refused("20 to " + t, one(I, 1, code(3, 0, 20, t, 3, 0, 22), map(4, I, 0, 0, 0)), JUMP, 2);
        }
        sound("19", one(I, 1, code(19, 2, 3, 0, 22), map(2, I, 0, 0, 0)));
        sound("20", one(I, 1, code(3, 0, 20, 4, 3, 0, 22), map(4, I, 0, 0, 0)));
        refused("19 to a MAP that is deeper", one(I, 1, code(19, 2, 22), map(2, 0, 0, 0, 1, I)), JUMP, 0);
        refused("19 to a MAP that asks for a LOCAL", one(I, 1, code(19, 2, 3, 2, 22), map(2, 0, 0, I, 0)), JUMP, 0);
        refused("20: what is there behind the OP",
            one(I, 1, code(3, 0, 20, 5, 0, 22), map(5, 0, 0, 0, 1, I)), JUMP, 2);
        sound("20: what is left", one(I, 2, code(3, 0, 5, 20, 5, 22), map(5, 0, 0, 0, 1, I)));
        refused("20 to a MAP of the other KIND",
            one(I, 2, code(3, 0, 5, 20, 7, 0, 22, 16, 22), map(7, 0, 0, 0, 1, D)), JUMP, 3);
        refused("20: the MAP right behind must fit too",
            one(I, 2, code(3, 0, 20, 0, 3, 0, 22), map(0, I, 0, 0, 0), map(4, I, D, I, 0)), MAP, 4);
        refused("back, to a MAP that no longer fits",
            one(I, 2, code(0, 3, 1, 4, 0, 19, 0), map(0, I, D, 0, 0)), JUMP, 5);
        sound("back, to a MAP that asks for less", one(I, 2, code(0, 3, 1, 4, 0, 19, 0), map(0, 0, D, 0, 0)));
    }

    private static void theFirstOfThem() {
        refused("12 ahead of 13", one(I, 1, code(3, 0, 30)), OP, 2);
        refused("13 ahead of 14", one(I, 1, code(1, 99)), SHORT, 0);
        refused("14 ahead of 15", one(I, 1, code(4, 3, 22)), ENTRY, 0);
        refused("15 ahead of 16", one(I, 1, code(3, 1, 7, 22)), UNDER, 2);
        refused("16 ahead of 17", one(I, 1, code(3, 0, 3, 2, 22)), KIND, 2);
        refused("16 ahead of 18", one(I, 1, code(3, 1, 20, 99, 22)), KIND, 2);
        refused("15 ahead of 18", one(I, 1, code(20, 99, 22)), UNDER, 0);
        refused("11 ahead of 12", one(I, 1, code(3, 0, 22, 30)), MAP, 3);
        refused("the first OP", one(I, 1, code(6, 30)), UNDER, 0);
        refused("14 ahead of 17", one(I, 1, code(3, 0, 1, 0, 22)), ENTRY, 2);
    }

    private static void methodByMethod() {
        int[] bad = code(0, 0, 6, 22);
        int[] good = code(1, 5, 22);
        for (int m = 0; m < 5; m++) {
            FileRow row = FileRow.of(2).pool(6).word("a").word("b").word("c").word("d").word("e").anInt(1).methods(5);
            for (int i = 0; i < 5; i++) {
                row.head(i, I, 0, 1).code(i < m ? good : bad).maps(0);
            }
            InstrumentFiles it = FileRow.fed(row.sealed());
            CHECKS.same("read, METHOD " + m, it.read(), -1000 - 50 * m - 2);
            CHECKS.same("fault", it.fault(), UNDER);
        }
        FileRow wide = FileRow.of(1).pool(2).word("a").anInt(1).methods(1).head(0, I, 0, 1);
        int[] code = new int[48];
        code[47] = 22;
        InstrumentFiles it = FileRow.fed(wide.code(code).maps(0).sealed());
        CHECKS.same("read, the last place", it.read(), -1047);
    }

    private static void kindsAsJudged() {
        InstrumentFiles it = one(I, 3, code(3, 1, 3, 0, 5, 4, 2, 7 + 8, 6, 6, 3, 2, 22));
        sound("a METHOD to be asked", it);
        int[][] stacks = {{}, null, {D}, null, {D, I}, {D, I, I}, null, {D, I}, {D, D}, {D}, {}, null, {I}};
        for (int place = -1; place <= 13; place++) {
            int[] stack = place < 0 || place > 12 ? null : stacks[place];
            for (int k = 0; k <= 5; k++) {
                int due = stack == null ? InstrumentFiles.UNKNOWN : k < stack.length ? stack[k] : 0;
                CHECKS.same("kind(0, " + place + ", " + k + ")", it.kind(0, place, k), due);
            }
            int[] locals = {I, D, place >= 7 ? I : 0};
            for (int l = 0; l < 3; l++) {
                int due = stack == null ? InstrumentFiles.UNKNOWN : locals[l];
                CHECKS.same("kind(0, " + place + ", " + (-1 - l) + ")", it.kind(0, place, -1 - l), due);
            }
            for (int k : new int[] {6, 7, -4, -7, Integer.MIN_VALUE, Integer.MAX_VALUE}) {
                int due = stack == null ? InstrumentFiles.UNKNOWN : InstrumentFiles.OUTSIDE;
                CHECKS.same("kind(0, " + place + ", " + k + ")", it.kind(0, place, k), due);
            }
            CHECKS.same("kind(1, ..)", it.kind(1, place, 9), InstrumentFiles.UNKNOWN);
        }
        CHECKS.same("kind(-1, 0, 0)", it.kind(-1, 0, 0), InstrumentFiles.UNKNOWN);
        CHECKS.same("kind(0, MIN, 0)", it.kind(0, Integer.MIN_VALUE, 0), InstrumentFiles.UNKNOWN);
        CHECKS.same("kind(0, MAX, 0)", it.kind(0, Integer.MAX_VALUE, 0), InstrumentFiles.UNKNOWN);
    }

    private static void kindsBehindMaps() {
        InstrumentFiles it = one(I, 3, code(3, 1, 0, 16, 22, 3, 2, 22), map(2, I, 0, 0, 1, D), map(5, 0, 0, I, 2, D, I));
        sound("a METHOD with MAPS", it);
        CHECKS.same("LOCAL 1 ahead", it.kind(0, 0, -2), D);
        CHECKS.same("LOCAL 1 behind the MAP", it.kind(0, 2, -2), 0);
        CHECKS.same("LOCAL 0 behind the MAP", it.kind(0, 2, -1), I);
        CHECKS.same("LOCAL 1 at the next OP", it.kind(0, 3, -2), 0);
        CHECKS.same("LOCAL 0 where none was AT HAND", it.kind(0, 5, -1), 0);
        CHECKS.same("LOCAL 2 where none was AT HAND", it.kind(0, 5, -3), I);
        CHECKS.same("the lowest item", it.kind(0, 5, 0), D);
        CHECKS.same("the item above", it.kind(0, 5, 1), I);
        CHECKS.same("no more items", it.kind(0, 5, 2), 0);
        CHECKS.same("the item that 3 pushed", it.kind(0, 7, 2), I);
    }
}
