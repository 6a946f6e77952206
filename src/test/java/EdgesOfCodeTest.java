import java.util.Arrays;

/**
 * Each bound that Terms 2 names of judging CODE, for promises 7 and 8, and for 12, which tells the KINDS:
 * what is still sound, and what is refused first, on each side.
 */
public final class EdgesOfCodeTest {
    private static final Checks CHECKS = new Checks("EdgesOfCodeTest");
    private static final int MAP = 11, OP = 12, SHORT = 13, ENTRY = 14, UNDER = 15, KIND = 16, OVER = 17, JUMP = 18;
    private static final int I = FileRow.INT;
    private static final int D = FileRow.DOUBLE;
    private static final int[] NOTHING = {};

    /** The OPS that take something off the STACK, with the bytes that follow: the lowest KIND first. */
    private static final int[][] TAKING = {{4, 2}, {5}, {6}, {7}, {8}, {9}, {10}, {11}, {12}, {13}, {14}, {15}, {16}, {17},
        {18}, {20, 0}, {21, 1}, {22}, {23}, {24, 3}};
    private static final int[][] TAKEN = {{I}, {I}, {I}, {I, I}, {I, I}, {I, I}, {I, I}, {D, D}, {D, D}, {D, D}, {D, D},
        {I}, {D}, {I, I}, {D, D}, {I}, {D, I, D}, {I}, {I}, {D}};

    public static void main(String[] args) {
        noFaultTo10();
        methodByMethod();
        localsAtFirst();
        atHandAtFirst();
        mapIfAtHand();
        mapAsDeep();
        mapSameKindsOnTheStack();
        mapLocals();
        thenKindsOfTheMap();
        withoutMapAtHand();
        theFirstOfThem();
        mapWhereNoOpBegins();
        noSuchOp();
        byteBeyondL();
        lastAndOthersGoOn();
        noSuchEntry();
        notListed();
        noSuchMethod();
        noSuchLocal();
        stackHasTooFew();
        kindOfWhatIsTaken();
        kindOfALocal();
        kindOfWhatIsGiven();
        stackAbove();
        stackNotAbove();
        jumpToAMap();
        jumpThatFits();
        notAtHandBehind();
        kindComesToTheLocal();
        calledMethodPushes();
        CHECKS.end();
    }

    /** Entries: 0 main (the NAME), 1 an INT, 2 a DOUBLE, 3 abs, 4 nothing, 5 other. */
    private static FileRow pool() {
        return FileRow.of(1).pool(6).word("main").anInt(6).aDouble(0.5).word("abs").word("nothing").word("other");
    }

    /** METHOD 0 as told; METHOD 1 is sound, TAKES a DOUBLE, an INT, a DOUBLE and gives an INT. */
    private static FileRow two(int[] takes, int gives, int locals, int stack, int[] code, int[]... maps) {
        FileRow row = pool().methods(2).head(0, gives, locals, stack, takes).code(code).maps(maps.length);
        for (int[] map : maps) {
            row.add(map);
        }
        return row.head(5, I, 3, 1, D, I, D).code(3, 1, 22).maps(0);
    }

    /** METHOD 0 TAKES an INT and a DOUBLE, and has three LOCALS. */
    private static FileRow one(int gives, int stack, int[] code, int[]... maps) {
        return two(new int[] {I, D}, gives, 3, stack, code, maps);
    }

    private static int[] code(int... code) {
        return code;
    }

    private static int[] map(int... bytes) {
        return bytes;
    }

    private static int[] joined(int[]... parts) {
        int length = 0;
        for (int[] part : parts) {
            length += part.length;
        }
        int[] all = new int[length];
        int at = 0;
        for (int[] part : parts) {
            System.arraycopy(part, 0, all, at, part.length);
            at += part.length;
        }
        return all;
    }

    /** CODE that pushes items of these KINDS, two bytes each. */
    private static int[] pushes(int... kinds) {
        int[] pushes = new int[2 * kinds.length];
        for (int i = 0; i < kinds.length; i++) {
            pushes[2 * i] = kinds[i];
            pushes[2 * i + 1] = kinds[i];
        }
        return pushes;
    }

    private static int[] zeros(int length) {
        return new int[length];
    }

    private static InstrumentFiles sound(String what, FileRow row) {
        InstrumentFiles it = FileRow.fed(row.sealed());
        CHECKS.same("read of " + what, it.read(), 2);
        CHECKS.same("fault of " + what, it.fault(), 0);
        return it;
    }

    private static void refused(String what, FileRow row, int fault, int place) {
        refused(what, row, fault, 0, place);
    }

    private static void refused(String what, FileRow row, int fault, int m, int place) {
        InstrumentFiles it = FileRow.fed(row.sealed());
        CHECKS.same("read of " + what, it.read(), -1000 - 50 * m - place);
        CHECKS.same("fault of " + what, it.fault(), fault);
        for (int count = 1; count <= 3; count++) {
            CHECKS.same("count(" + count + ") of " + what, it.count(count), 0);
        }
        CHECKS.same("kind of " + what, it.kind(0, 0, 0), InstrumentFiles.UNKNOWN);
        CHECKS.same("call of " + what, it.call(0, 0, 0, 0, 1), InstrumentFiles.UNKNOWN);
    }

    private static void noFaultTo10() {
        CHECKS.about("Terms 2", "judged METHOD by METHOD where the FILE has no FAULT to 10");
        int[] row = one(I, 1, code(99)).sealed();
        int last = row.length - 1;
        InstrumentFiles it = FileRow.fed(row);
        CHECKS.same("read of bad CODE", it.read(), -1000);
        it.alter(last, 1);
        CHECKS.same("with a SUM that is wrong", it.read(), -200 - last);
        CHECKS.same("fault", it.fault(), 9);
        it.alter(last, 1);
        it.feed(0, 1);
        CHECKS.same("with a byte behind SUM", it.read(), -200 - last - 1);
        CHECKS.same("fault", it.fault(), 10);
    }

    private static FileRow ofFive(int[]... codes) {
        FileRow row = FileRow.of(1).pool(6).word("a").word("b").word("c").word("d").word("e").anInt(6).methods(5);
        for (int m = 0; m < 5; m++) {
            row.head(m, I, 0, 1).code(codes[m]).maps(0);
        }
        return row;
    }

    private static void methodByMethod() {
        CHECKS.about("Terms 2", "judged METHOD by METHOD");
        int[] good = code(1, 5, 22);
        for (int m = 0; m < 5; m++) {
            int[][] codes = {good, good, good, good, good};
            Arrays.fill(codes, m, 5, code(0, 0, 99));
            refused("METHODS from " + m + " on", ofFive(codes), OP, m, 2);
        }
        CHECKS.about("Terms 2", "from place 0 on OP by OP");
        refused("the first of two places", ofFive(code(0, 6, 99), good, good, good, good), UNDER, 0, 1);
        refused("place 0", ofFive(code(99, 99, 99), good, good, good, good), OP, 0, 0);
        refused("the last place of the last METHOD", ofFive(good, good, good, good, zeros(48)), SHORT, 4, 47);
        refused("a later place in an earlier METHOD", ofFive(zeros(48), code(99), good, good, good), SHORT, 0, 47);
    }

    private static void localsAtFirst() {
        CHECKS.about("Terms 2", "KINDS of the LOCALS (at first what it TAKES, then nothing) and of the STACK (empty)");
        int[][] takes = {{}, {D}, {I, D}, {D, I, D}};
        for (int n = 0; n <= 3; n++) {
            InstrumentFiles it = sound("n " + n, two(takes[n], I, 6, 6, code(1, 1, 22)));
            for (int l = 0; l < 6; l++) {
                CHECKS.same("LOCAL " + l, it.kind(0, 0, -1 - l), l < n ? takes[n][l] : 0);
            }
            for (int k = 0; k <= 5; k++) {
                CHECKS.same("item " + k, it.kind(0, 0, k), 0);
            }
            if (n > 0) {
                sound("the last that it TAKES", two(takes[n], takes[n][n - 1], 6, 1, code(3, n - 1, 22)));
            }
            refused("the first that is nothing", two(takes[n], I, 6, 1, code(3, n, 22)), KIND, 0);
        }
        refused("22 of the empty STACK", one(I, 1, code(22)), UNDER, 0);
    }

    private static void atHandAtFirst() {
        CHECKS.about("Terms 2", "and AT HAND (so at first)");
        sound("no MAP at place 0", one(I, 1, code(1, 1, 22)));
        refused("a MAP at place 0 that does not fit", one(I, 1, code(1, 1, 22), map(0, 0, 0, I, 0)), MAP, 0);
        refused("a MAP at place 0 of another depth", one(I, 1, code(22), map(0, 0, 0, 0, 1, I)), MAP, 0);
    }

    private static void mapIfAtHand() {
        CHECKS.about("Terms 2", "has it a MAP, that FITS (if the KINDS are AT HAND)");
        int[] any = map(3, D, I, D, 2, D, I);
        InstrumentFiles it = sound("any MAP where none is AT HAND", one(I, 2, code(1, 1, 22, 22), any));
        CHECKS.same("LOCAL 0", it.kind(0, 3, -1), D);
        CHECKS.same("LOCAL 1", it.kind(0, 3, -2), I);
        CHECKS.same("LOCAL 2", it.kind(0, 3, -3), D);
        CHECKS.same("the lowest item", it.kind(0, 3, 0), D);
        CHECKS.same("the top", it.kind(0, 3, 1), I);
        refused("the same MAP where they are AT HAND", one(I, 2, code(1, 1, 0, 22), any), MAP, 3);
    }

    private static void mapAsDeep() {
        CHECKS.about("Terms 2", "as deep");
        for (int depth = 0; depth <= 6; depth++) {
            for (int told = 0; told <= 6; told++) {
                int[] kinds = new int[told];
                Arrays.fill(kinds, I);
                int[] pushed = new int[depth];
                Arrays.fill(pushed, I);
                int[] code = joined(pushes(pushed), code(0, depth == 0 ? 0 : 6, 19, 2 * depth + 2));
                int[] fits = joined(map(2 * depth, 0, 0, 0, told), kinds);
                int[] behind = joined(map(2 * depth + 2, 0, 0, 0, Math.max(0, depth - 1)), Arrays.copyOf(pushed,
                    Math.max(0, depth - 1)));
                String what = "a MAP of " + told + " at " + depth;
                if (told == depth) {
                    sound(what, one(I, 6, code, fits, behind));
                } else {
                    refused(what, one(I, 6, code, fits, behind), MAP, 2 * depth);
                }
            }
        }
    }

    private static void mapSameKindsOnTheStack() {
        CHECKS.about("Terms 2", "the same KINDS on the STACK");
        int[] pushed = {I, D, I, D, D, I};
        int[] code = joined(pushes(pushed), code(0, 22));
        int[] fitting = joined(map(12, 0, 0, 0, 6), pushed);
        sound("six KINDS", one(I, 6, code, fitting));
        for (int item = 0; item < 6; item++) {
            int[] other = fitting.clone();
            other[5 + item] = 3 - other[5 + item];
            refused("another KIND of item " + item, one(I, 6, code, other), MAP, 12);
        }
    }

    private static void mapLocals() {
        CHECKS.about("Terms 2", "and each LOCAL that has a KIND in the MAP has that");
        int[] takes = {I, D, I};
        int[] has = {I, D, I, 0, 0, D};
        int[] code = code(2, 2, 4, 5, 0, 1, 1, 22);
        for (int l = 0; l < 6; l++) {
            for (int told = 0; told <= 2; told++) {
                int[] map = map(4, 0, 0, 0, 0, 0, 0, 0);
                map[1 + l] = told;
                FileRow row = two(takes, I, 6, 1, code, map);
                String what = "LOCAL " + l + " is " + has[l] + ", in the MAP " + told;
                if (told == 0 || told == has[l]) {
                    CHECKS.same("kind of " + what, sound(what, row).kind(0, 4, -1 - l), told);
                } else {
                    refused(what, row, MAP, 4);
                }
            }
        }
    }

    private static void thenKindsOfTheMap() {
        CHECKS.about("Terms 2", "then the KINDS are those of the MAP, and AT HAND");
        int[] code = code(0, 3, 0, 22);
        sound("a MAP that tells the LOCAL", one(I, 1, code, map(0, I, D, 0, 0)));
        refused("a MAP that tells nothing of it", one(I, 1, code, map(1, 0, D, 0, 0)), KIND, 1);
        InstrumentFiles it = sound("a MAP that forgets one", one(D, 1, code(0, 3, 1, 22), map(1, 0, D, 0, 0)));
        CHECKS.same("ahead of the MAP", it.kind(0, 0, -1), I);
        CHECKS.same("behind the MAP", it.kind(0, 1, -1), 0);
        CHECKS.same("and further on", it.kind(0, 3, -1), 0);
        sound("AT HAND again", one(I, 1, code(1, 1, 22, 0, 0, 1, 1, 22), map(3, 0, 0, 0, 0)));
    }

    private static void withoutMapAtHand() {
        CHECKS.about("Terms 2", "Without MAP they must be AT HAND.");
        refused("behind 22", one(I, 1, code(1, 1, 22, 1, 1, 22)), MAP, 3);
        refused("behind 19", one(I, 1, code(19, 0, 1, 1, 22), map(0, 0, 0, 0, 0)), MAP, 2);
        sound("behind 22, with a MAP", one(I, 1, code(1, 1, 22, 1, 1, 22), map(3, 0, 0, 0, 0)));
        sound("behind 19, with a MAP", one(I, 1, code(19, 0, 1, 1, 22), map(0, 0, 0, 0, 0), map(2, 0, 0, 0, 0)));
        sound("behind 20, without", one(I, 1, code(1, 1, 20, 0, 1, 1, 22), map(0, 0, 0, 0, 0)));
        sound("at the end, where no OP is", one(I, 1, code(1, 1, 22)));
    }

    private static void theFirstOfThem() {
        CHECKS.about("Terms 2", "FAULTS, at the place of the OP, the first of:");
        refused("11 and 12", one(I, 1, code(1, 1, 22, 99)), MAP, 3);
        refused("11 and 13", one(I, 1, code(1, 1, 22, 1)), MAP, 3);
        refused("11 and 14", one(I, 1, code(1, 1, 22, 1, 0, 22)), MAP, 3);
        refused("11 and 15", one(I, 1, code(6, 1, 1, 22), map(0, 0, 0, 0, 1, I)), MAP, 0);
        refused("11 and 16", one(I, 1, code(3, 2, 22), map(0, 0, 0, I, 0)), MAP, 0);
        refused("11 and 17", one(I, 1, code(1, 1, 1, 1, 22), map(2, 0, 0, 0, 0)), MAP, 2);
        refused("11 and 18", one(I, 1, code(19, 99), map(0, 0, 0, I, 0)), MAP, 0);
        refused("12 and 13", one(I, 1, code(99)), OP, 0);
        refused("13 and 14", one(I, 1, code(1, 0)), SHORT, 0);
        refused("13 and 14, 24", one(I, 1, code(24, 0)), SHORT, 0);
        refused("13 and 14, 21", one(I, 1, code(21, 9)), SHORT, 0);
        refused("13 and 15", one(I, 1, code(7)), SHORT, 0);
        refused("13 and 16", one(I, 1, code(2, 2, 15)), SHORT, 2);
        refused("13 and 17", one(I, 1, code(1, 1, 5)), SHORT, 2);
        refused("13 and 18", one(I, 1, code(1, 1, 20, 99)), SHORT, 2);
        refused("14 and 15, 4", one(I, 1, code(4, 3, 22)), ENTRY, 0);
        refused("14 and 15, 21", one(I, 1, code(21, 2, 22)), ENTRY, 0);
        refused("14 and 15, 24", one(I, 1, code(24, 4, 22)), ENTRY, 0);
        refused("14 and 16, 24", one(I, 1, code(1, 1, 24, 4, 22)), ENTRY, 2);
        refused("14 and 17", one(I, 1, code(1, 1, 1, 2, 22)), ENTRY, 2);
        refused("15 and 16", one(I, 1, code(2, 2, 7, 22)), UNDER, 2);
        refused("15 and 16, 21", one(I, 2, code(1, 1, 1, 1, 21, 1, 22)), UNDER, 4);
        refused("15 and 18", one(I, 1, code(20, 99, 22)), UNDER, 0);
        refused("16 and 17", one(I, 1, code(1, 1, 3, 2, 22)), KIND, 2);
        refused("16 and 18", one(I, 1, code(2, 2, 20, 99, 22)), KIND, 2);
    }

    private static void mapWhereNoOpBegins() {
        CHECKS.about("Terms 2", "or no OP begins where a MAP is: that once the METHOD is gone through, "
            + "at the PLACE of the first such");
        int[] code = code(1, 1, 6, 1, 1, 22);
        sound("MAPS where OPS begin", one(I, 1, code, map(0, 0, 0, 0, 0), map(2, 0, 0, 0, 1, I), map(3, 0, 0, 0, 0),
            map(5, 0, 0, 0, 1, I)));
        refused("a byte that follows", one(I, 1, code, map(1, 0, 0, 0, 0)), MAP, 1);
        refused("the other", one(I, 1, code, map(4, 0, 0, 0, 0)), MAP, 4);
        refused("the first such", one(I, 1, code, map(0, 0, 0, 0, 0), map(1, 0, 0, 0, 0), map(4, 0, 0, 0, 0)), MAP, 1);
        refused("the last place", one(I, 1, code(0, 19, 0), map(0, 0, 0, 0, 0), map(2, 0, 0, 0, 0)), MAP, 2);
        refused("behind a FAULT further on", one(I, 1, code(1, 1, 6, 1, 1, 22, 99), map(1, 0, 0, 0, 0)), MAP, 6);
        refused("behind a FAULT at the end", one(I, 1, code(1, 1, 6, 0, 1, 1), map(1, 0, 0, 0, 0)), SHORT, 4);
        FileRow next = pool().methods(2).head(0, I, 0, 1).code(code).maps(1).add(1, 0).head(5, I, 0, 1).code(99).maps(0);
        refused("ahead of the next METHOD", next, MAP, 1);
        FileRow second = pool().methods(2).head(0, I, 0, 1).code(code).maps(0).head(5, I, 0, 1).code(code).maps(1).add(4, 0);
        refused("in the next METHOD", second, MAP, 1, 4);
    }

    private static void noSuchOp() {
        CHECKS.about("Terms 2", "12 OP: there is no such.");
        for (int op = 25; op <= 255; op++) {
            refused("OP " + op, one(I, 1, code(op, 1, 1, 22)), OP, 0);
            refused("OP " + op + " as the last", one(I, 1, code(1, 1, op)), OP, 2);
        }
        sound("OP 24", one(D, 1, code(2, 2, 24, 3, 22)));
        sound("OP 0", one(I, 1, code(0, 1, 1, 22)));
    }

    private static void byteBeyondL() {
        CHECKS.about("Terms 2", "13 SHORT: a byte that it has is beyond L");
        int[] ops = {1, 2, 3, 4, 19, 20, 21, 24};
        for (int op : ops) {
            refused("OP " + op + " alone", one(I, 1, code(op)), SHORT, 0);
            refused("OP " + op + " at place 47", one(I, 1, joined(zeros(47), code(op))), SHORT, 47);
        }
        sound("19 at L - 2", one(I, 1, code(19, 0), map(0, 0, 0, 0, 0)));
        sound("19 at place 46", one(I, 1, joined(zeros(46), code(19, 0)), map(0, 0, 0, 0, 0)));
        sound("22, which has none, at place 47", one(I, 1, joined(zeros(45), code(1, 1, 22))));
    }

    private static void lastAndOthersGoOn() {
        CHECKS.about("Terms 2", "or it is the last one and others may go on behind it");
        int[][] goOn = {{0}, {1, 1}, {2, 2}, {3, 0}, {4, 0}, {5}, {6}, {7}, {8}, {9}, {10}, {11}, {12}, {13}, {14}, {15},
            {16}, {17}, {18}, {20, 0}, {21, 1}, {23}, {24, 3}};
        for (int[] op : goOn) {
            refused("OP " + op[0] + " as the last", one(I, 6, joined(zeros(3), op)), SHORT, 3);
            refused("OP " + op[0] + " as the last of 48", one(I, 6, joined(zeros(48 - op.length), op)), SHORT,
                48 - op.length);
        }
        sound("19 as the last", one(I, 6, code(0, 19, 0), map(0, 0, 0, 0, 0)));
        sound("22 as the last", one(I, 6, code(1, 1, 22)));
        refused("22 as the last: it is UNDER", one(I, 6, code(22)), UNDER, 0);
    }

    private static void noSuchEntry() {
        CHECKS.about("Terms 2", "14 ENTRY: no such POOL entry, not of that TAG");
        for (int e = 0; e < 6; e++) {
            boolean isInt = e == 1;
            boolean isDouble = e == 2;
            FileRow ints = one(I, 1, code(1, e, 22));
            FileRow doubles = one(D, 1, code(2, e, 22));
            if (isInt) {
                sound("1 of an INT", ints);
            } else {
                refused("1 of entry " + e, ints, ENTRY, 0);
            }
            if (isDouble) {
                sound("2 of a DOUBLE", doubles);
            } else {
                refused("2 of entry " + e, doubles, ENTRY, 0);
            }
        }
        for (int e : new int[] {6, 7, 15, 16, 128, 255}) {
            refused("1 of " + e, one(I, 1, code(1, e, 22)), ENTRY, 0);
            refused("2 of " + e, one(D, 1, code(2, e, 22)), ENTRY, 0);
            refused("24 of " + e, one(D, 1, code(2, 2, 24, e, 22)), ENTRY, 2);
        }
        FileRow most = FileRow.of(1).pool(16).word("a");
        for (int e = 1; e < 16; e++) {
            most.anInt(e);
        }
        InstrumentFiles it = FileRow.fed(most.methods(1).head(0, I, 0, 1).code(1, 15, 22).maps(0).sealed());
        CHECKS.same("read of 1 with entry 15 of 16", it.read(), 1);
    }

    private static void notListed() {
        CHECKS.about("Terms 2", "24: not listed");
        CHECKS.about("Terms 2", "24 e: the WORD of entry e is listed: abs, root, floor, sign");
        String[] listed = {"abs", "root", "floor", "sign"};
        String[] others = {"ab", "absa", "abt", "bbs", "roo", "roots", "soot", "rooti", "floo", "floors", "gloor", "sig",
            "signs", "tign", "s", "a", "sqrt", "signum", "ceil", "absabsab", "aabs"};
        for (String word : listed) {
            CHECKS.same("read of 24 of " + word, FileRow.fed(listing(word)).read(), 1);
        }
        for (String word : others) {
            InstrumentFiles it = FileRow.fed(listing(word));
            CHECKS.same("read of 24 of " + word, it.read(), -1002);
            CHECKS.same("fault of 24 of " + word, it.fault(), ENTRY);
        }
        refused("24 of an INT", one(D, 1, code(2, 2, 24, 1, 22)), ENTRY, 2);
        refused("24 of a DOUBLE", one(D, 1, code(2, 2, 24, 2, 22)), ENTRY, 2);
        int[] sameBits = FileRow.of(1).pool(2).word("a").doubleBits(0x616273L).methods(1)
            .head(0, D, 1, 1, D).code(3, 0, 24, 1, 22).maps(0).sealed();
        InstrumentFiles it = FileRow.fed(sameBits);
        CHECKS.same("read of 24 of a DOUBLE whose bits are the letters abs", it.read(), -1002);
        CHECKS.same("fault", it.fault(), ENTRY);
    }

    private static int[] listing(String word) {
        return FileRow.of(1).pool(2).word("main").word(word).methods(1).head(0, D, 1, 1, D).code(3, 0, 24, 1, 22).maps(0)
            .sealed();
    }

    private static void noSuchMethod() {
        CHECKS.about("Terms 2", "21: no such METHOD");
        int[] pushes = pushes(D, I, D);
        sound("the last METHOD", one(I, 3, joined(pushes, code(21, 1, 22))));
        sound("METHOD 0, itself", one(I, 3, joined(pushes(I, D), code(21, 0, 22))));
        for (int m : new int[] {2, 3, 5, 255}) {
            refused("METHOD " + m, one(I, 3, joined(pushes, code(21, m, 22))), ENTRY, 6);
        }
        int[] up = code(21, 4, 22);
        int[] good = code(1, 5, 22);
        InstrumentFiles it = FileRow.fed(ofFive(up, good, good, good, good).sealed());
        CHECKS.same("read of the last of five, which is judged later", it.read(), 5);
        refused("a sixth", ofFive(code(21, 5, 22), good, good, good, good), ENTRY, 0);
    }

    private static void noSuchLocal() {
        CHECKS.about("Terms 2", "3, 4: no such LOCAL");
        for (int locals = 0; locals <= 6; locals++) {
            for (int l = 0; l <= 6; l++) {
                String what = "LOCAL " + l + " of " + locals;
                FileRow stores = two(NOTHING, I, locals, 1, code(1, 1, 4, l, 1, 1, 22));
                FileRow loads = two(NOTHING, I, locals, 1, code(1, 1, 4, l, 3, l, 22));
                if (l < locals) {
                    sound("4 to " + what, stores);
                    sound("3 of " + what, loads);
                } else {
                    refused("4 to " + what, stores, ENTRY, 2);
                    refused("3 of " + what, two(NOTHING, I, locals, 1, code(3, l, 22)), ENTRY, 0);
                }
            }
            refused("4 to LOCAL 255", two(NOTHING, I, locals, 1, code(1, 1, 4, 255, 1, 1, 22)), ENTRY, 2);
            refused("3 of LOCAL 255", two(NOTHING, I, locals, 1, code(3, 255, 22)), ENTRY, 0);
        }
    }

    /** The OP on a STACK of these KINDS, and then an INT given back; the MAP at 0 is what 20 goes to. */
    private static FileRow on(int[] kinds, int[] op) {
        return one(I, 6, joined(pushes(kinds), op, code(1, 1, 22)), map(0, I, D, 0, 0));
    }

    /** As on(), but 22 has nothing behind it. */
    private static FileRow onLast(int[] kinds, int[] op) {
        return op[0] == 22 ? one(I, 6, joined(pushes(kinds), op)) : on(kinds, op);
    }

    private static void stackHasTooFew() {
        CHECKS.about("Terms 2", "15 UNDER: the STACK has too few.");
        for (int i = 0; i < TAKING.length; i++) {
            int[] all = TAKEN[i];
            sound("OP " + TAKING[i][0] + " on as many as it takes", onLast(all, TAKING[i]));
            for (int few = 0; few < all.length; few++) {
                int[] upper = Arrays.copyOfRange(all, all.length - few, all.length);
                refused("OP " + TAKING[i][0] + " on " + few, onLast(upper, TAKING[i]), UNDER, 2 * few);
            }
        }
        sound("OP 0 on nothing", on(NOTHING, code(0)));
        sound("OP 21 of none on nothing", ofNoneTaken(code(21, 1, 22), 1));
    }

    /** METHOD 1 TAKES nothing and GIVES an INT. */
    private static FileRow ofNoneTaken(int[] code, int stack) {
        return pool().methods(2).head(0, I, 0, stack).code(code).maps(0).head(5, I, 0, 1).code(1, 1, 22).maps(0);
    }

    private static void kindOfWhatIsTaken() {
        CHECKS.about("Terms 2", "16 KIND: of what it takes off the STACK (the top first)");
        for (int i = 0; i < TAKING.length; i++) {
            int op = TAKING[i][0];
            boolean anyKind = op == 4 || op == 5 || op == 6;
            for (int item = 0; item < TAKEN[i].length; item++) {
                int[] kinds = TAKEN[i].clone();
                kinds[item] = 3 - kinds[item];
                String what = "OP " + op + " with another KIND of item " + item;
                if (anyKind) {
                    sound(what, onLast(kinds, TAKING[i]));
                } else {
                    refused(what, onLast(kinds, TAKING[i]), KIND, 2 * kinds.length);
                }
            }
            // 20 goes to where the STACK is empty, so below its INT there must be nothing.
            for (int below = 1; below <= 2 && op != 20; below++) {
                sound("OP " + op + " above KIND " + below, onLast(joined(new int[] {below}, TAKEN[i]), TAKING[i]));
            }
        }
    }

    private static void kindOfALocal() {
        CHECKS.about("Terms 2", "of the LOCAL of 3 (nothing, too)");
        int[] takes = {I, D};
        sound("an INT", two(takes, I, 6, 1, code(3, 0, 22)));
        sound("a DOUBLE", two(takes, D, 6, 1, code(3, 1, 22)));
        for (int l = 2; l < 6; l++) {
            refused("LOCAL " + l + ", nothing", two(takes, I, 6, 1, code(3, l, 22)), KIND, 0);
            sound("LOCAL " + l + ", once something came to it", two(takes, I, 6, 1, code(3, 0, 4, l, 3, l, 22)));
        }
        refused("nothing, by a MAP", two(takes, I, 6, 1, code(0, 3, 0, 22), map(1, 0, 0, 0, 0, 0, 0, 0)), KIND, 1);
    }

    private static void kindOfWhatIsGiven() {
        CHECKS.about("Terms 2", "of what 22 gives");
        sound("an INT", one(I, 1, code(1, 1, 22)));
        sound("a DOUBLE", one(D, 1, code(2, 2, 22)));
        refused("an INT for a DOUBLE", one(D, 1, code(1, 1, 22)), KIND, 2);
        refused("a DOUBLE for an INT", one(I, 1, code(2, 2, 22)), KIND, 2);
        sound("the top alone is given", one(I, 2, code(2, 2, 1, 1, 22)));
        refused("the top alone is given", one(D, 2, code(2, 2, 1, 1, 22)), KIND, 4);
    }

    private static int[] ofInts(int depth) {
        int[] kinds = new int[depth];
        Arrays.fill(kinds, I);
        return pushes(kinds);
    }

    private static void stackAbove() {
        CHECKS.about("Terms 2", "17 OVER: the STACK would be above STACK.");
        int[][] pushing = {{1, 1}, {2, 2}, {3, 0}, {3, 1}, {5}};
        for (int stack = 1; stack <= 6; stack++) {
            for (int[] op : pushing) {
                for (int depth = op[0] == 5 ? 1 : 0; depth <= stack; depth++) {
                    String what = "OP " + op[0] + " on " + depth + " at STACK " + stack;
                    int[] code = joined(ofInts(depth), op, code(6, 19, 2 * depth + op.length + 1));
                    int[] last = joined(map(2 * depth + op.length + 1, 0, 0, 0, depth), intKinds(depth));
                    if (depth < stack) {
                        sound(what, one(I, stack, code, last));
                    } else {
                        refused(what, one(I, stack, code, last), OVER, 2 * depth);
                    }
                }
            }
            sound("21 of none, up to STACK " + stack,
                ofNoneTaken(joined(ofInts(stack - 1), code(21, 1, 22)), stack));
            refused("21 of none, above STACK " + stack,
                ofNoneTaken(joined(ofInts(stack), code(21, 1, 22)), stack), OVER, 2 * stack);
        }
    }

    private static int[] intKinds(int depth) {
        int[] kinds = new int[depth];
        Arrays.fill(kinds, I);
        return kinds;
    }

    /** What takes as many as it pushes, or more, is not above where the STACK is full. */
    private static void stackNotAbove() {
        CHECKS.about("Terms 2", "17 OVER: the STACK would be above STACK.");
        for (int i = 0; i < TAKING.length; i++) {
            int[] op = TAKING[i];
            if (op[0] != 5 && op[0] != 20 && op[0] != 22) {
                int[] code = joined(pushes(TAKEN[i]), op);
                int[] behind = joined(code, code(19, code.length));
                boolean doubleLeft = op[0] >= 11 && op[0] <= 15 || op[0] >= 23;
                boolean leaves = op[0] != 4 && op[0] != 6;
                int[] last = leaves ? map(code.length, 0, 0, 0, 1, doubleLeft ? D : I) : map(code.length, 0, 0, 0, 0);
                sound("OP " + op[0] + " on a full STACK", one(I, TAKEN[i].length, behind, last));
            }
        }
        sound("5 at STACK 2", one(I, 2, code(1, 1, 5, 22)));
        sound("five times 5 at STACK 6", one(I, 6, code(1, 1, 5, 5, 5, 5, 5, 22)));
        refused("six times 5 at STACK 6", one(I, 6, code(1, 1, 5, 5, 5, 5, 5, 5, 22)), OVER, 7);
    }

    private static void jumpToAMap() {
        CHECKS.about("Terms 2", "18 JUMP: to a place without a MAP");
        int[][] maps = {map(0, 0, 0, 0, 0), map(4, 0, 0, 0, 0)};
        for (int t : new int[] {0, 1, 2, 3, 4, 5, 6, 7, 47, 48, 128, 255}) {
            FileRow go = one(I, 1, code(0, 0, 19, t, 1, 1, 22), maps);
            FileRow goIfZero = one(I, 1, code(1, 1, 20, t, 1, 1, 22), maps);
            if (t == 0 || t == 4) {
                sound("19 to " + t, go);
                sound("20 to " + t, goIfZero);
            } else {
                refused("19 to " + t, go, JUMP, 2);
                refused("20 to " + t, goIfZero, JUMP, 2);
            }
        }
        sound("19 to itself", one(I, 1, code(19, 0), map(0, 0, 0, 0, 0)));
        sound("19 to place 47", one(I, 1, joined(code(1, 1, 19, 47), code(0), zeros(41), code(0, 22)),
            map(4, 0, 0, 0, 1, I), map(47, 0, 0, 0, 1, I)));
        refused("19 to a MAP where no OP begins: the MAP, in the end",
            one(I, 1, code(19, 1, 1, 1, 22), map(1, 0, 0, 0, 0), map(2, 0, 0, 0, 0)), MAP, 1);
    }

    private static void jumpThatFits() {
        CHECKS.about("Terms 2", "or its MAP does not FIT what is there behind the OP");
        int[] behind = code(1, 1, 22);
        refused("20: its INT is off the STACK", one(I, 2, joined(code(1, 1, 20, 4), behind), map(4, 0, 0, 0, 1, I)), JUMP,
            2);
        sound("20: what is left fits", one(I, 2, joined(code(1, 1, 1, 1, 20, 6), behind), map(6, 0, 0, 0, 1, I)));
        refused("20: one more is left", one(I, 2, joined(code(1, 1, 1, 1, 20, 6), behind), map(6, 0, 0, 0, 0)), JUMP, 4);
        refused("20: another KIND is left", one(I, 2, joined(code(2, 2, 1, 1, 20, 6), behind), map(6, 0, 0, 0, 1, I)),
            JUMP, 4);
        sound("19: the STACK fits", one(I, 2, joined(code(1, 1, 19, 4), behind), map(4, 0, 0, 0, 1, I)));
        refused("19: not as deep", one(I, 2, joined(code(1, 1, 19, 4), behind), map(4, 0, 0, 0, 2, I, I)), JUMP, 2);
        refused("19: deeper", one(I, 2, joined(code(1, 1, 19, 4), behind), map(4, 0, 0, 0, 0)), JUMP, 2);
        refused("19: another KIND", one(I, 2, joined(code(1, 1, 19, 4), behind), map(4, 0, 0, 0, 1, D)), JUMP, 2);
        sound("19: LOCALS fit", one(I, 1, joined(code(19, 2), behind), map(2, I, D, 0, 0)));
        refused("19: a LOCAL is nothing", one(I, 1, joined(code(19, 2), behind), map(2, I, D, D, 0)), JUMP, 0);
        refused("19: a LOCAL of another KIND", one(I, 1, joined(code(19, 2), behind), map(2, D, 0, 0, 0)), JUMP, 0);
        refused("19 back: a LOCAL has changed", one(I, 1, code(0, 2, 2, 4, 0, 19, 0), map(0, I, 0, 0, 0)), JUMP, 5);
        sound("19 back: it may, where the MAP tells nothing", one(I, 1, code(0, 2, 2, 4, 0, 19, 0), map(0, 0, 0, 0, 0)));
    }

    private static void notAtHandBehind() {
        CHECKS.about("Terms 2", "(19, 22 do not go on behind; KINDS are not AT HAND there.)");
        int[][] goOn = {{0}, {1, 1}, {2, 2}, {3, 0}, {4, 2}, {5}, {6}, {7}, {11}, {15}, {16}, {17}, {18}, {20, 0}, {21, 1},
            {23}, {24, 3}};
        int[][] stacks = {{}, {}, {}, {}, {I}, {I}, {I}, {I, I}, {D, D}, {I}, {D}, {I, I}, {D, D}, {I}, {D, I, D}, {I}, {D}};
        for (int i = 0; i < goOn.length; i++) {
            sound("behind OP " + goOn[i][0], on(stacks[i], goOn[i]));
        }
        refused("behind 19", on(NOTHING, code(19, 0)), MAP, 2);
        refused("behind 22", on(new int[] {I}, code(22)), MAP, 3);
    }

    private static void kindComesToTheLocal() {
        CHECKS.about("Terms 2", "4 l: what is popped comes to LOCAL l, its KIND too.");
        InstrumentFiles it = sound("DOUBLES for INTS", two(new int[] {I, D}, D, 6, 1,
            code(2, 2, 4, 0, 1, 1, 4, 1, 2, 2, 4, 5, 3, 5, 22)));
        int[] places = {0, 2, 4, 6, 8, 10, 12, 14};
        int[][] kinds = {{I, D, 0}, {I, D, 0}, {D, D, 0}, {D, D, 0}, {D, I, 0}, {D, I, 0}, {D, I, D}, {D, I, D}};
        for (int i = 0; i < places.length; i++) {
            CHECKS.same("LOCAL 0 at " + places[i], it.kind(0, places[i], -1), kinds[i][0]);
            CHECKS.same("LOCAL 1 at " + places[i], it.kind(0, places[i], -2), kinds[i][1]);
            CHECKS.same("LOCAL 4 at " + places[i], it.kind(0, places[i], -5), 0);
            CHECKS.same("LOCAL 5 at " + places[i], it.kind(0, places[i], -6), kinds[i][2]);
        }
    }

    private static void calledMethodPushes() {
        CHECKS.about("Terms 2", "21 m: METHOD m is CALLED: what it TAKES is popped (the last on top); push what it GIVES.");
        InstrumentFiles it = sound("21", one(I, 4, code(2, 2, 2, 2, 1, 1, 2, 2, 21, 1, 22)));
        int[][] stacks = {{D, D, I, D}, {D, I, 0, 0}};
        for (int k = 0; k < 4; k++) {
            CHECKS.same("item " + k + " ahead", it.kind(0, 8, k), stacks[0][k]);
            CHECKS.same("item " + k + " behind", it.kind(0, 10, k), stacks[1][k]);
        }
        refused("the first on top", one(I, 3, code(1, 1, 2, 2, 2, 2, 21, 1, 22)), KIND, 6);
    }
}
