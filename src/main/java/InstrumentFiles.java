/**
 * Instruments as files: a TAPE of bytes is read as a FILE, its METHODS are judged, and what is sound is run.
 *
 * <p>All rows are made here and in the constructors below, and used again: no call makes an object.
 */
public final class InstrumentFiles {
    public static final int NONE = -1, UNKNOWN = -101, OUTSIDE = -102, STATE = -103, FULL = -104;

    /** The KINDS, and the TAGS of the POOL, which begin alike. */
    private static final int INT = 1, DOUBLE = 2, WORD = 3;

    /** The most that a FILE may have of each. */
    private static final int POOL_ROOM = 16, METHOD_ROOM = 5, TAKES_ROOM = 3, LOCAL_ROOM = 6, STACK_ROOM = 6;
    private static final int CODE_ROOM = 48, MAP_ROOM = 8, LETTER_ROOM = 8;

    private static final int MOST_STEPS = 1000;

    private final Tape tape;
    private final Program program;
    private final Reader reader;
    private final Judge judge;
    private final Machine machine;
    private int latestFault;
    private int callsSinceRead;

    public InstrumentFiles() {
        tape = new Tape();
        program = new Program();
        reader = new Reader();
        judge = new Judge();
        machine = new Machine();
    }

    public int feed(long w, int n) {
        if (n < 1 || n > 8) {
            return OUTSIDE;
        }
        if (tape.length + n > Tape.ROOM) {
            return FULL;
        }
        for (int i = n - 1; i >= 0; i--) {
            tape.append((int) (w >>> (8 * i)) & 255);
        }
        return tape.length;
    }

    public int wipe() {
        int had = tape.length;
        tape.length = 0;
        return had;
    }

    public int alter(int i, int mask) {
        if (!tape.has(i)) {
            return UNKNOWN;
        }
        if (mask < 0 || mask > 255) {
            return OUTSIDE;
        }
        return tape.replace(i, tape.byteAt(i) ^ mask);
    }

    public int at(int i) {
        return tape.has(i) ? tape.byteAt(i) : UNKNOWN;
    }

    public int seal() {
        int last = tape.length - 1;
        return tape.has(last) ? tape.replace(last, tape.sumAhead(last)) : STATE;
    }

    public int read() {
        callsSinceRead = 0;
        reader.readFile(tape, program);
        latestFault = reader.wrong;
        int answer = latestFault == 0 ? program.methods : -200 - reader.place;
        for (int m = 0; m < program.methods && latestFault == 0; m++) {
            latestFault = judge.judgeMethod(program, m);
            answer = latestFault == 0 ? program.methods : -1000 - 50 * m - judge.place;
        }
        if (latestFault != 0) {
            program.forget();
        }
        return answer;
    }

    public int fault() {
        return latestFault;
    }

    public int table(int i, long bits) {
        return machine.setTable(i, Doubles.canonical(bits)) ? 1 : UNKNOWN;
    }

    public int method(int m, int what) {
        Method it = program.methodAt(m);
        if (it == null) {
            return UNKNOWN;
        }
        switch (what) {
            case 0: return it.takes;
            case 1: return it.gives;
            case 2: return it.locals;
            case 3: return it.stack;
            case 4: return it.length;
            case 5: return it.maps;
            case 6: return it.name;
            case 7: return it.failed;
            case 8: return it.isAside() ? 1 : 0;
            default: return OUTSIDE;
        }
    }

    public long pool(int e, int what) {
        Pool entries = program.pool;
        if (!entries.has(e)) {
            return UNKNOWN;
        }
        switch (what) {
            case 0: return entries.tagOf(e);
            case 1: return entries.isTagged(e, WORD) ? entries.sizeOf(e) : entries.valueOf(e);
            default: return OUTSIDE;
        }
    }

    public int kind(int m, int place, int k) {
        Method it = program.methodAt(m);
        if (it == null || it.kindsAt(place) == NONE) {
            return UNKNOWN;
        }
        if (k >= STACK_ROOM || -1 - k >= it.locals) {
            return OUTSIDE;
        }
        int kinds = it.kindsAt(place);
        return k >= 0 ? Kinds.item(kinds, k) : Kinds.local(kinds, -1 - k);
    }

    public int call(int m, long a, long b, long c, int steps) {
        Method it = program.methodAt(m);
        if (it == null) {
            return UNKNOWN;
        }
        if (steps < 1 || steps > MOST_STEPS) {
            return OUTSIDE;
        }
        if (it.isAside()) {
            return STATE;
        }
        callsSinceRead++;
        machine.prepare(m);
        machine.giveArgument(it, 0, a);
        machine.giveArgument(it, 1, b);
        machine.giveArgument(it, 2, c);
        machine.run(program, steps);
        if (machine.failure == Machine.ZERO || machine.failure == Machine.INDEX) {
            it.failed++;
        }
        return machine.failure == 0 ? 1 : 0;
    }

    public long result() {
        return machine.given;
    }

    public int told(int what) {
        switch (what) {
            case 0: return machine.failure;
            case 1: return machine.steps;
            case 2: return machine.outermost;
            case 3: return machine.failedPlace;
            case 4: return machine.deepest;
            default: return OUTSIDE;
        }
    }

    public int count(int what) {
        switch (what) {
            case 0: return tape.length;
            case 1: return program.methods;
            case 2: return program.pool.entries;
            case 3: return program.version;
            case 4: return callsSinceRead;
            default: return OUTSIDE;
        }
    }

    private static final class Tape {
        static final int ROOM = 500;

        private final int[] bytes = new int[ROOM];
        private int length;

        boolean has(int i) {
            return i >= 0 && i < length && i < bytes.length;
        }

        /** NONE where the row has ended, so that its reader needs no second question. */
        int byteAt(int i) {
            return has(i) ? bytes[i] : NONE;
        }

        int replace(int i, int value) {
            if (has(i)) {
                bytes[i] = value;
            }
            return value;
        }

        void append(int value) {
            if (length >= 0 && length < bytes.length) {
                bytes[length] = value;
                length++;
            }
        }

        int sumAhead(int end) {
            int sum = 0;
            for (int i = 0; i < end && i < bytes.length; i++) {
                sum += bytes[i];
            }
            return sum & 255;
        }
    }

    private static final class Pool {
        /** The letters of abs, root, floor and sign, as valueOf tells a WORD. */
        static final long ABS = 0x616273L, ROOT = 0x726f6f74L, FLOOR = 0x666c6f6f72L, SIGN = 0x7369676eL;

        private final int[] tags = new int[POOL_ROOM];
        private final int[] sizes = new int[POOL_ROOM];
        private final long[] values = new long[POOL_ROOM];
        private int entries;

        boolean has(int e) {
            return e >= 0 && e < entries && e < POOL_ROOM;
        }

        boolean isTagged(int e, int tag) {
            return has(e) && tags[e] == tag;
        }

        boolean isListed(int e) {
            long letters = valueOf(e);
            return isTagged(e, WORD)
                && (letters == ABS || letters == ROOT || letters == FLOOR || letters == SIGN);
        }

        int tagOf(int e) {
            return has(e) ? tags[e] : 0;
        }

        int sizeOf(int e) {
            return has(e) ? sizes[e] : 0;
        }

        /** A number's BITS; of a WORD its letters, eight bits each: the same letters are the same value. */
        long valueOf(int e) {
            return has(e) ? values[e] : 0;
        }

        void append(int tag, int size, long value) {
            if (entries >= 0 && entries < POOL_ROOM) {
                tags[entries] = tag;
                sizes[entries] = size;
                values[entries] = value;
                entries++;
            }
        }
    }

    /**
     * KINDS of STACK and LOCALS, packed into one number so that a row of them is a row of ints:
     * two bits for each STACK item, the lowest first, then two for each LOCAL, then how deep the STACK is.
     */
    private static final class Kinds {
        static final int LOCALS_SHIFT = 2 * STACK_ROOM;
        static final int DEPTH_SHIFT = LOCALS_SHIFT + 2 * LOCAL_ROOM;
        static final int ONE_DEEPER = 1 << DEPTH_SHIFT;
        static final int ALL_OF_STACK = (7 << DEPTH_SHIFT) | ((1 << LOCALS_SHIFT) - 1);

        static int depth(int kinds) {
            return kinds >>> DEPTH_SHIFT;
        }

        static int item(int kinds, int i) {
            return i >= 0 && i < STACK_ROOM ? (kinds >>> (2 * i)) & 3 : 0;
        }

        static int local(int kinds, int l) {
            return l >= 0 && l < LOCAL_ROOM ? (kinds >>> (LOCALS_SHIFT + 2 * l)) & 3 : 0;
        }

        static int push(int kinds, int kind) {
            return depth(kinds) < STACK_ROOM ? (kinds | (kind << (2 * depth(kinds)))) + ONE_DEEPER : kinds;
        }

        static int pop(int kinds) {
            int top = depth(kinds) - 1;
            return top >= 0 ? (kinds & ~(3 << (2 * top))) - ONE_DEEPER : kinds;
        }

        static int withLocal(int kinds, int l, int kind) {
            int shift = LOCALS_SHIFT + 2 * l;
            return l >= 0 && l < LOCAL_ROOM ? (kinds & ~(3 << shift)) | (kind << shift) : kinds;
        }

        static boolean fits(int kinds, int map) {
            boolean fit = (kinds & ALL_OF_STACK) == (map & ALL_OF_STACK);
            for (int l = 0; l < LOCAL_ROOM; l++) {
                int wanted = local(map, l);
                fit = fit && (wanted == 0 || wanted == local(kinds, l));
            }
            return fit;
        }
    }

    private static final class Method {
        private int name;
        private int takes;
        private int gives;
        private int locals;
        private int stack;
        private int length;
        private int maps;
        private int failed;
        /** The KINDS ahead of the first OP: the LOCALS hold what it TAKES. */
        private int firstKinds;
        private final int[] code = new int[CODE_ROOM];
        private final int[] mapPlaces = new int[MAP_ROOM];
        private final int[] mapKinds = new int[MAP_ROOM];
        /** The KINDS ahead of the OP at each place; NONE where no OP begins. */
        private final int[] judgedKinds = new int[CODE_ROOM];

        boolean isAside() {
            return failed >= 3;
        }

        int takenKind(int i) {
            return Kinds.local(firstKinds, i);
        }

        /** No byte of CODE is NONE, so beyond the CODE it tells the end. */
        int codeAt(int place) {
            return place >= 0 && place < length && place < CODE_ROOM ? code[place] : NONE;
        }

        void setCode(int place, int value) {
            if (place >= 0 && place < CODE_ROOM) {
                code[place] = value;
            }
        }

        void appendMap(int place, int kinds) {
            if (maps >= 0 && maps < MAP_ROOM) {
                mapPlaces[maps] = place;
                mapKinds[maps] = kinds;
                maps++;
            }
        }

        int mapPlace(int i) {
            return i >= 0 && i < maps && i < MAP_ROOM ? mapPlaces[i] : NONE;
        }

        /** The KINDS of the MAP at a place of the CODE; NONE: it has no MAP. */
        int mapAt(int place) {
            for (int i = 0; i < maps && i < MAP_ROOM; i++) {
                if (mapPlaces[i] == place) {
                    return mapKinds[i];
                }
            }
            return NONE;
        }

        int kindsAt(int place) {
            return place >= 0 && place < length && place < CODE_ROOM ? judgedKinds[place] : NONE;
        }

        void setKinds(int place, int kinds) {
            if (place >= 0 && place < CODE_ROOM) {
                judgedKinds[place] = kinds;
            }
        }

        void forgetJudgement() {
            for (int place = 0; place < CODE_ROOM; place++) {
                judgedKinds[place] = NONE;
            }
        }
    }

    /** The FILE that was read last. */
    private static final class Program {
        private final Pool pool = new Pool();
        private final Method[] rows = new Method[METHOD_ROOM];
        private int version;
        private int methods;

        Program() {
            for (int m = 0; m < METHOD_ROOM; m++) {
                rows[m] = new Method();
            }
        }

        void forget() {
            version = 0;
            methods = 0;
            pool.entries = 0;
        }

        Method methodAt(int m) {
            return m >= 0 && m < methods && m < METHOD_ROOM ? rows[m] : null;
        }

        /** The row of the METHOD behind those that it has. */
        Method nextMethod() {
            return methods >= 0 && methods < METHOD_ROOM ? rows[methods] : null;
        }

        boolean canName(int e) {
            boolean can = pool.isTagged(e, WORD);
            for (int m = 0; m < methods; m++) {
                Method ahead = methodAt(m);
                can = can && ahead != null && pool.valueOf(ahead.name) != pool.valueOf(e);
            }
            return can;
        }
    }

    /** Reads a FILE byte by byte, up to the first byte that is wrong. */
    private static final class Reader {
        static final int CUT = 1, MARK = 2, COUNT = 3, TAG = 4, LETTER = 5, NAME = 6, KIND = 7, PLACE = 8;
        static final int SUM = 9, MORE = 10;

        private int place;
        private int wrong;

        void readFile(Tape tape, Program program) {
            place = 0;
            wrong = 0;
            program.forget();
            take(tape, 73, 73, MARK);
            take(tape, 78, 78, MARK);
            program.version = take(tape, 1, 2, MARK);
            readPool(tape, program.pool);
            readMethods(tape, program);
            int sum = tape.sumAhead(place);
            take(tape, sum, sum, SUM);
            if (wrong == 0 && tape.has(place)) {
                wrong = MORE;
            }
        }

        /** Once a byte was wrong this takes none and answers 0, so that all counts behind it are 0. */
        private int take(Tape tape, int low, int high, int fault) {
            if (wrong != 0) {
                return 0;
            }
            int value = tape.byteAt(place);
            if (value == NONE) {
                wrong = CUT;
                return 0;
            }
            if (value < low || value > high) {
                wrong = fault;
                return 0;
            }
            place++;
            return value;
        }

        private long takeMany(Tape tape, int size, int low, int high) {
            long value = 0;
            for (int i = 0; i < size; i++) {
                value = (value << 8) | take(tape, low, high, LETTER);
            }
            return value;
        }

        private void readPool(Tape tape, Pool pool) {
            int entries = take(tape, 0, POOL_ROOM, COUNT);
            for (int e = 0; e < entries && wrong == 0; e++) {
                int tag = take(tape, INT, WORD, TAG);
                if (tag == INT) {
                    pool.append(tag, 4, (int) takeMany(tape, 4, 0, 255));
                } else if (tag == DOUBLE) {
                    pool.append(tag, 8, Doubles.canonical(takeMany(tape, 8, 0, 255)));
                } else {
                    int size = take(tape, 1, LETTER_ROOM, COUNT);
                    pool.append(tag, size, takeMany(tape, size, 'a', 'z'));
                }
            }
        }

        private void readMethods(Tape tape, Program program) {
            int methods = take(tape, 1, METHOD_ROOM, COUNT);
            for (int m = 0; m < methods && wrong == 0; m++) {
                Method it = program.nextMethod();
                if (it != null) {
                    it.name = takeName(tape, program);
                    readHead(tape, it);
                    readCode(tape, it);
                    readMaps(tape, it);
                    program.methods++;
                }
            }
        }

        private int takeName(Tape tape, Program program) {
            int name = tape.byteAt(place);
            if (wrong == 0 && name != NONE && !program.canName(name)) {
                wrong = NAME;
            }
            return take(tape, 0, 255, NAME);
        }

        private void readHead(Tape tape, Method it) {
            it.failed = 0;
            it.firstKinds = 0;
            it.takes = take(tape, 0, TAKES_ROOM, COUNT);
            for (int i = 0; i < it.takes; i++) {
                it.firstKinds = Kinds.withLocal(it.firstKinds, i, take(tape, INT, DOUBLE, KIND));
            }
            it.gives = take(tape, INT, DOUBLE, KIND);
            it.locals = take(tape, it.takes, LOCAL_ROOM, COUNT);
            it.stack = take(tape, 1, STACK_ROOM, COUNT);
        }

        private void readCode(Tape tape, Method it) {
            it.length = take(tape, 1, CODE_ROOM, COUNT);
            for (int i = 0; i < it.length; i++) {
                it.setCode(i, take(tape, 0, 255, CUT));
            }
        }

        private void readMaps(Tape tape, Method it) {
            it.maps = 0;
            int maps = take(tape, 0, MAP_ROOM, COUNT);
            int lowest = 0;
            for (int i = 0; i < maps && wrong == 0; i++) {
                int mapPlace = take(tape, lowest, it.length - 1, PLACE);
                it.appendMap(mapPlace, takeMapKinds(tape, it));
                lowest = mapPlace + 1;
            }
        }

        private int takeMapKinds(Tape tape, Method it) {
            int kinds = 0;
            for (int l = 0; l < it.locals; l++) {
                kinds = Kinds.withLocal(kinds, l, take(tape, 0, DOUBLE, KIND));
            }
            int depth = take(tape, 0, it.stack, COUNT);
            for (int d = 0; d < depth; d++) {
                kinds = Kinds.push(kinds, take(tape, INT, DOUBLE, KIND));
            }
            return kinds;
        }
    }

    /** What the OPS have in common, by their number; what is special of one stands where it is judged or run. */
    private static final class Ops {
        static final int INT_ENTRY = 1, DOUBLE_ENTRY = 2, LOAD = 3, STORE = 4, AGAIN = 5, DROP = 6;
        static final int ADD = 7, SUBTRACT = 8, MULTIPLY = 9, DIVIDE = 10;
        static final int ADD_DOUBLES = 11, SUBTRACT_DOUBLES = 12, MULTIPLY_DOUBLES = 13, DIVIDE_DOUBLES = 14;
        static final int TO_DOUBLE = 15, TO_INT = 16, BELOW = 17, BELOW_DOUBLES = 18;
        static final int GO = 19, GO_IF_ZERO = 20, CALL = 21, GIVE = 22, LISTED = 24;

        /** How many items an OP takes off the STACK, their KIND (0: any), and the KIND that it pushes (0: none). */
        private static final int[] TAKEN =
            {0, 0, 0, 0, 1, 1, 1, 2, 2, 2, 2, 2, 2, 2, 2, 1, 1, 2, 2, 0, 1, 0, 1, 1, 1};
        private static final int[] TAKEN_KIND =
            {0, 0, 0, 0, 0, 0, 0, 1, 1, 1, 1, 2, 2, 2, 2, 1, 2, 1, 2, 0, 1, 0, 0, 1, 2};
        private static final int[] PUSHED_KIND =
            {0, 1, 2, 0, 0, 0, 0, 1, 1, 1, 1, 2, 2, 2, 2, 2, 1, 1, 1, 0, 0, 0, 0, 2, 2};

        static boolean isOp(int op) {
            return op >= 0 && op <= LISTED;
        }

        static boolean hasByte(int op) {
            return (op >= INT_ENTRY && op <= STORE) || (op >= GO && op <= CALL) || op == LISTED;
        }

        static int size(int op) {
            return hasByte(op) ? 2 : 1;
        }

        static boolean goesOn(int op) {
            return op != GO && op != GIVE;
        }

        static boolean jumps(int op) {
            return op == GO || op == GO_IF_ZERO;
        }

        static int taken(int op) {
            return op >= 0 && op < TAKEN.length ? TAKEN[op] : 0;
        }

        static int takenKind(int op) {
            return op >= 0 && op < TAKEN_KIND.length ? TAKEN_KIND[op] : 0;
        }

        static int pushedKind(int op) {
            return op >= 0 && op < PUSHED_KIND.length ? PUSHED_KIND[op] : 0;
        }
    }

    /** Judges the CODE of a METHOD, up to the first OP that is wrong. */
    private static final class Judge {
        static final int MAP = 11, OP = 12, SHORT = 13, ENTRY = 14, UNDER = 15, KIND = 16, OVER = 17, JUMP = 18;

        private int place;
        private int kinds;
        private boolean atHand;

        /** The FAULT; place tells where it is. */
        int judgeMethod(Program program, int m) {
            Method it = program.methodAt(m);
            if (it == null) {
                return 0;
            }
            it.forgetJudgement();
            kinds = it.firstKinds;
            atHand = true;
            for (int next = 0; next < it.length; next++) {
                place = next;
                int wrong = judgeOp(program, it);
                if (wrong != 0) {
                    return wrong;
                }
                if (Ops.hasByte(it.codeAt(next))) {
                    next++;
                }
            }
            return judgeMapPlaces(it);
        }

        private int judgeMapPlaces(Method it) {
            for (int i = 0; i < it.maps; i++) {
                place = it.mapPlace(i);
                if (it.kindsAt(place) == NONE) {
                    return MAP;
                }
            }
            return 0;
        }

        private int judgeOp(Program program, Method it) {
            if (!meetsMap(it)) {
                return MAP;
            }
            it.setKinds(place, kinds);
            int op = it.codeAt(place);
            if (!Ops.isOp(op)) {
                return OP;
            }
            int behind = place + Ops.size(op);
            if (behind > it.length || (behind == it.length && Ops.goesOn(op))) {
                return SHORT;
            }
            int follows = it.codeAt(place + 1);
            if (!hasEntry(program, it, op, follows)) {
                return ENTRY;
            }
            int wrong = op == Ops.CALL ? judgeCall(it, program.methodAt(follows)) : judgeStack(it, op, follows);
            if (wrong == 0 && Ops.jumps(op) && !reaches(it, follows)) {
                wrong = JUMP;
            }
            atHand = Ops.goesOn(op);
            return wrong;
        }

        private boolean meetsMap(Method it) {
            int map = it.mapAt(place);
            if (map == NONE) {
                return atHand;
            }
            boolean fit = !atHand || Kinds.fits(kinds, map);
            kinds = map;
            return fit;
        }

        private boolean reaches(Method it, int target) {
            int map = it.mapAt(target);
            return map != NONE && Kinds.fits(kinds, map);
        }

        private boolean hasEntry(Program program, Method it, int op, int follows) {
            switch (op) {
                case Ops.INT_ENTRY: return program.pool.isTagged(follows, INT);
                case Ops.DOUBLE_ENTRY: return program.pool.isTagged(follows, DOUBLE);
                case Ops.LISTED: return program.pool.isListed(follows);
                case Ops.CALL: return program.methodAt(follows) != null;
                case Ops.LOAD:
                case Ops.STORE: return follows < it.locals;
                default: return true;
            }
        }

        private int judgeCall(Method it, Method called) {
            if (called == null) {
                return ENTRY;
            }
            if (Kinds.depth(kinds) < called.takes) {
                return UNDER;
            }
            boolean fit = true;
            for (int i = called.takes - 1; i >= 0; i--) {
                fit = fit && popped() == called.takenKind(i);
            }
            return fit ? push(it, called.gives) : KIND;
        }

        private int judgeStack(Method it, int op, int follows) {
            if (Kinds.depth(kinds) < Ops.taken(op)) {
                return UNDER;
            }
            int wanted = op == Ops.GIVE ? it.gives : Ops.takenKind(op);
            int top = 0;
            boolean fit = op != Ops.LOAD || Kinds.local(kinds, follows) != 0;
            for (int i = 0; i < Ops.taken(op); i++) {
                top = popped();
                fit = fit && (wanted == 0 || wanted == top);
            }
            if (!fit) {
                return KIND;
            }
            switch (op) {
                case Ops.LOAD:
                    return push(it, Kinds.local(kinds, follows));
                case Ops.STORE:
                    kinds = Kinds.withLocal(kinds, follows, top);
                    return 0;
                case Ops.AGAIN:
                    kinds = Kinds.push(kinds, top);
                    return push(it, top);
                default:
                    return Ops.pushedKind(op) == 0 ? 0 : push(it, Ops.pushedKind(op));
            }
        }

        private int popped() {
            int top = Kinds.item(kinds, Kinds.depth(kinds) - 1);
            kinds = Kinds.pop(kinds);
            return top;
        }

        private int push(Method it, int kind) {
            if (Kinds.depth(kinds) >= it.stack) {
                return OVER;
            }
            kinds = Kinds.push(kinds, kind);
            return 0;
        }
    }

    /** Runs CALLS; an INT is held as a long, a DOUBLE as its BITS: what is judged needs no KINDS any more. */
    private static final class Machine {
        static final int ZERO = 1, INDEX = 2, SPENT = 3, DEEP = 4;
        static final int MOST_DEEP = 8, TABLE_ROOM = 8;

        private final long[] table = new long[TABLE_ROOM];
        private final long[] stack = new long[MOST_DEEP * STACK_ROOM];
        private final long[] locals = new long[MOST_DEEP * LOCAL_ROOM];
        /** By how deep a CALL is: its METHOD, the place of its next OP, where its part of the stack begins. */
        private final int[] methods = new int[MOST_DEEP];
        private final int[] places = new int[MOST_DEEP];
        private final int[] bases = new int[MOST_DEEP];
        private int depth;
        private int top;
        /** The place of the OP that began last. */
        private int opPlace;
        private int failure;
        private int steps;
        private int outermost;
        private int failedPlace;
        private int deepest;
        private long given;

        boolean setTable(int i, long value) {
            boolean has = i >= 0 && i < TABLE_ROOM;
            if (has) {
                table[i] = value;
            }
            return has;
        }

        void prepare(int m) {
            failure = 0;
            steps = 0;
            outermost = m;
            failedPlace = NONE;
            deepest = 0;
            given = 0;
            top = 0;
            depth = 0;
            enter(m);
        }

        void giveArgument(Method it, int i, long bits) {
            if (i < it.takes) {
                setLocal(i, it.takenKind(i) == INT ? (int) bits : Doubles.canonical(bits));
            }
        }

        void run(Program program, int most) {
            for (int begun = 0; begun < most && depth > 0 && failure == 0; begun++) {
                steps++;
                runOp(program);
            }
            if (depth > 0 && failure == 0) {
                opPlace = nextPlace();
                fail(SPENT);
            }
        }

        private void enter(int m) {
            if (depth >= 0 && depth < MOST_DEEP) {
                methods[depth] = m;
                places[depth] = 0;
                bases[depth] = top;
                depth++;
                deepest = Math.max(deepest, depth);
            }
        }

        private void leave() {
            long value = pop();
            int open = depth - 1;
            if (open >= 0 && open < MOST_DEEP) {
                top = bases[open];
                depth = open;
            }
            if (depth == 0) {
                given = value;
            } else {
                push(value);
            }
        }

        private void fail(int why) {
            failure = why;
            failedPlace = opPlace;
        }

        private int nextPlace() {
            int open = depth - 1;
            return open >= 0 && open < MOST_DEEP ? places[open] : 0;
        }

        private void goTo(int place) {
            int open = depth - 1;
            if (open >= 0 && open < MOST_DEEP) {
                places[open] = place;
            }
        }

        private Method openMethod(Program program) {
            int open = depth - 1;
            return open >= 0 && open < MOST_DEEP ? program.methodAt(methods[open]) : null;
        }

        private void push(long value) {
            if (top >= 0 && top < stack.length) {
                stack[top] = value;
                top++;
            }
        }

        private long pop() {
            int item = top - 1;
            if (item < 0 || item >= stack.length) {
                return 0;
            }
            top = item;
            return stack[item];
        }

        private long local(int l) {
            int i = (depth - 1) * LOCAL_ROOM + l;
            return i >= 0 && i < locals.length ? locals[i] : 0;
        }

        private void setLocal(int l, long value) {
            int i = (depth - 1) * LOCAL_ROOM + l;
            if (i >= 0 && i < locals.length) {
                locals[i] = value;
            }
        }

        private void runOp(Program program) {
            Method it = openMethod(program);
            if (it == null) {
                return;
            }
            opPlace = nextPlace();
            int op = it.codeAt(opPlace);
            int follows = it.codeAt(opPlace + 1);
            goTo(opPlace + Ops.size(op));
            if (op <= Ops.DROP) {
                runMove(program.pool, op, follows);
            } else if (op <= Ops.DIVIDE) {
                runInts(op);
            } else if (op <= Ops.DIVIDE_DOUBLES) {
                runDoubles(op);
            } else if (op <= Ops.BELOW_DOUBLES) {
                runChange(op);
            } else if (op == Ops.LISTED) {
                runListed(program.pool.valueOf(follows));
            } else {
                runRest(program, op, follows);
            }
        }

        private void runMove(Pool pool, int op, int follows) {
            switch (op) {
                case Ops.INT_ENTRY:
                case Ops.DOUBLE_ENTRY:
                    push(pool.valueOf(follows));
                    break;
                case Ops.LOAD:
                    push(local(follows));
                    break;
                case Ops.STORE:
                    setLocal(follows, pop());
                    break;
                case Ops.AGAIN:
                    long value = pop();
                    push(value);
                    push(value);
                    break;
                case Ops.DROP:
                    pop();
                    break;
                default:
                    break;
            }
        }

        private void runInts(int op) {
            int y = (int) pop();
            int x = (int) pop();
            switch (op) {
                case Ops.ADD:
                    push(x + y);
                    break;
                case Ops.SUBTRACT:
                    push(x - y);
                    break;
                case Ops.MULTIPLY:
                    push(x * y);
                    break;
                default:
                    if (y == 0) {
                        fail(ZERO);
                    } else {
                        push(x / y);
                    }
                    break;
            }
        }

        private void runDoubles(int op) {
            long y = pop();
            long x = pop();
            switch (op) {
                case Ops.ADD_DOUBLES:
                    push(Doubles.add(x, y));
                    break;
                case Ops.SUBTRACT_DOUBLES:
                    push(Doubles.add(x, Doubles.negate(y)));
                    break;
                case Ops.MULTIPLY_DOUBLES:
                    push(Doubles.multiply(x, y));
                    break;
                default:
                    push(Doubles.divide(x, y));
                    break;
            }
        }

        private void runChange(int op) {
            long y = pop();
            switch (op) {
                case Ops.TO_DOUBLE:
                    push(Doubles.fromInt((int) y));
                    break;
                case Ops.TO_INT:
                    push(Doubles.toInt(y));
                    break;
                case Ops.BELOW:
                    push(pop() < y ? 1 : 0);
                    break;
                default:
                    push(Doubles.isBelow(pop(), y) ? 1 : 0);
                    break;
            }
        }

        private void runRest(Program program, int op, int follows) {
            switch (op) {
                case Ops.GO:
                    goTo(follows);
                    break;
                case Ops.GO_IF_ZERO:
                    if (pop() == 0) {
                        goTo(follows);
                    }
                    break;
                case Ops.CALL:
                    callInside(program.methodAt(follows), follows);
                    break;
                case Ops.GIVE:
                    leave();
                    break;
                default:
                    pushFromTable(pop());
                    break;
            }
        }

        private void callInside(Method called, int m) {
            if (depth >= MOST_DEEP) {
                fail(DEEP);
            } else if (called != null) {
                top -= called.takes;
                enter(m);
                for (int i = 0; i < called.takes; i++) {
                    int item = top + i;
                    setLocal(i, item >= 0 && item < stack.length ? stack[item] : 0);
                }
            }
        }

        private void pushFromTable(long i) {
            if (i >= 0 && i < TABLE_ROOM) {
                push(table[(int) i]);
            } else {
                fail(INDEX);
            }
        }

        private void runListed(long letters) {
            long x = pop();
            if (letters == Pool.ABS) {
                push(Doubles.absolute(x));
            } else if (letters == Pool.ROOT) {
                push(Doubles.root(x));
            } else if (letters == Pool.FLOOR) {
                push(Doubles.floor(x));
            } else {
                push(Doubles.sign(x));
            }
        }
    }

    /**
     * DOUBLES as their BITS, reckoned with longs alone: the part of Java that this program keeps to
     * has no way from bits to a double and back, and no double of it may be NaN.
     *
     * <p>A number is its digits times 2 to the power (scale - BIAS): digits of 53 bits at most, scale 1 to 2046.
     */
    private static final class Doubles {
        static final long SIGN = 0x8000000000000000L, INFINITY = 0x7ff0000000000000L, NAN = 0x7ff8000000000000L;
        static final long ONE = 0x3ff0000000000000L;
        static final long HIDDEN = 1L << 52;
        static final int BIAS = 1075;
        /** Bits below the digits while a result is not yet rounded; the lowest tells whether any more were lost. */
        static final int SPARE = 3;

        static long canonical(long bits) {
            return isNan(bits) ? NAN : bits;
        }

        static boolean isNan(long bits) {
            return (bits & ~SIGN) > INFINITY;
        }

        static long absolute(long bits) {
            return bits & ~SIGN;
        }

        static long negate(long bits) {
            return canonical(bits ^ SIGN);
        }

        private static int scaleOf(long bits) {
            return Math.max((int) ((bits & INFINITY) >>> 52), 1);
        }

        private static long digitsOf(long bits) {
            long fraction = bits & (HIDDEN - 1);
            return (bits & INFINITY) == 0 ? fraction : fraction | HIDDEN;
        }

        static long add(long a, long b) {
            if (isNan(a) || isNan(b)) {
                return NAN;
            }
            long large = absolute(a) >= absolute(b) ? a : b;
            long small = absolute(a) >= absolute(b) ? b : a;
            boolean alike = (a ^ b) >= 0;
            if (absolute(large) == INFINITY) {
                return absolute(small) == INFINITY && !alike ? NAN : large;
            }
            int scale = scaleOf(large);
            long left = digitsOf(large) << SPARE;
            long right = shiftedDown(digitsOf(small) << SPARE, scale - scaleOf(small));
            if (left == right && !alike) {
                return 0;
            }
            return rounded(large & SIGN, scale, alike ? left + right : left - right);
        }

        static long multiply(long a, long b) {
            long sign = (a ^ b) & SIGN;
            long x = absolute(a);
            long y = absolute(b);
            if (x > INFINITY || y > INFINITY) {
                return NAN;
            }
            if (x == INFINITY || y == INFINITY) {
                return x == 0 || y == 0 ? NAN : sign | INFINITY;
            }
            if (x == 0 || y == 0) {
                return sign;
            }
            int shiftX = leadingZeros(digitsOf(x)) - 11;
            int shiftY = leadingZeros(digitsOf(y)) - 11;
            long product = productAbove49(digitsOf(x) << shiftX, digitsOf(y) << shiftY);
            return rounded(sign, scaleOf(x) - shiftX + scaleOf(y) - shiftY - BIAS + 49 + SPARE, product);
        }

        /** x y without its 49 lowest bits, of which the last one tells; x and y below 2 to the 53rd. */
        private static long productAbove49(long x, long y) {
            long half = (1L << 26) - 1;
            long middle = (x >>> 26) * (y & half) + (x & half) * (y >>> 26);
            long low = (x & half) * (y & half) + ((middle & half) << 26);
            long high = (x >>> 26) * (y >>> 26) + (middle >>> 26) + (low >>> 52);
            return (high << 3) | shiftedDown(low & (HIDDEN - 1), 49);
        }

        static long divide(long a, long b) {
            long sign = (a ^ b) & SIGN;
            long x = absolute(a);
            long y = absolute(b);
            if (x > INFINITY || y > INFINITY || (x == INFINITY && y == INFINITY) || (x == 0 && y == 0)) {
                return NAN;
            }
            if (x == INFINITY || y == 0) {
                return sign | INFINITY;
            }
            if (x == 0 || y == INFINITY) {
                return sign;
            }
            int shiftX = leadingZeros(digitsOf(x)) - 11;
            int shiftY = leadingZeros(digitsOf(y)) - 11;
            long quotient = quotientWith60(digitsOf(x) << shiftX, digitsOf(y) << shiftY);
            return rounded(sign, scaleOf(x) - shiftX - scaleOf(y) + shiftY + BIAS - 60 + SPARE, quotient);
        }

        /** x / y with 60 bits more, the last of which tells of a rest; both have 53 bits, so ten fit at a time. */
        private static long quotientWith60(long x, long y) {
            if (y == 0) {
                return 0;
            }
            long quotient = x / y;
            long rest = x % y;
            for (int i = 0; i < 6; i++) {
                quotient = (quotient << 10) | ((rest << 10) / y);
                rest = (rest << 10) % y;
            }
            return rest == 0 ? quotient : quotient | 1;
        }

        static long root(long a) {
            if (absolute(a) == 0 || a == INFINITY) {
                return a;
            }
            if (isNan(a) || a < 0) {
                return NAN;
            }
            int shift = leadingZeros(digitsOf(a)) - 11;
            int power = scaleOf(a) - shift - BIAS;
            int odd = power & 1;
            long root = rootWith29(digitsOf(a) << (shift + odd));
            return rounded(0, ((power - odd) >> 1) - 29 + BIAS + SPARE, root);
        }

        /** The root of x (54 bits) with 29 bits more, the last of which tells of a rest: two bits of x for each. */
        private static long rootWith29(long x) {
            long root = 0;
            long rest = 0;
            for (int i = 0; i < 56; i++) {
                long next = i < 27 ? (x >>> (52 - 2 * i)) & 3 : 0;
                long trial = (root << 2) | 1;
                rest = (rest << 2) | next;
                root <<= 1;
                if (rest >= trial) {
                    rest -= trial;
                    root |= 1;
                }
            }
            return rest == 0 ? root : root | 1;
        }

        static long floor(long a) {
            int whole = (int) (absolute(a) >>> 52) - 1023;
            if (absolute(a) == 0 || whole >= 52) {
                return a;
            }
            if (whole < 0) {
                return a < 0 ? SIGN | ONE : 0;
            }
            long part = (1L << (52 - whole)) - 1;
            boolean goesDown = a < 0 && (a & part) != 0;
            return (goesDown ? a + part : a) & ~part;
        }

        static long sign(long a) {
            return isNan(a) || absolute(a) == 0 ? a : (a & SIGN) | ONE;
        }

        static boolean isBelow(long a, long b) {
            long x = a < 0 ? -absolute(a) : a;
            long y = b < 0 ? -absolute(b) : b;
            return !isNan(a) && !isNan(b) && x < y;
        }

        static long fromInt(int i) {
            long size = Math.abs((long) i);
            return size == 0 ? 0 : rounded(i < 0 ? SIGN : 0, BIAS + SPARE, size);
        }

        static int toInt(long a) {
            int whole = (int) (absolute(a) >>> 52) - 1023;
            if (isNan(a) || whole < 0) {
                return 0;
            }
            if (whole > 30) {
                return a < 0 ? Integer.MIN_VALUE : Integer.MAX_VALUE;
            }
            int size = (int) (digitsOf(a) >>> (52 - whole));
            return a < 0 ? -size : size;
        }

        /** The DOUBLE next to digits times 2 to the power (scale - BIAS - SPARE), the even one of two as near. */
        private static long rounded(long sign, int scale, long digits) {
            int up = Math.min(leadingZeros(digits) - 11 + SPARE, scale - 1);
            long fitting = up >= 0 ? digits << up : shiftedDown(digits, -up);
            int fittingScale = scale - up;
            if (fittingScale > 2046) {
                return sign | INFINITY;
            }
            long spare = fitting & 7;
            long kept = fitting >>> SPARE;
            if (spare > 4 || (spare == 4 && (kept & 1) == 1)) {
                kept++;
            }
            // The hidden bit counts the scale up by one, and a carry beyond it by one more.
            return sign | (((long) (fittingScale - 1) << 52) + kept);
        }

        /** The lowest bit of the answer also tells whether bits were lost. */
        private static long shiftedDown(long digits, int by) {
            if (by > 62) {
                return digits == 0 ? 0 : 1;
            }
            long kept = digits >>> by;
            return (kept << by) == digits ? kept : kept | 1;
        }

        private static int leadingZeros(long digits) {
            int zeros = digits == 0 ? 64 : 0;
            long rest = digits;
            for (int half = 32; half > 0 && rest != 0; half >>= 1) {
                if ((rest >>> (64 - half)) == 0) {
                    zeros += half;
                    rest <<= half;
                }
            }
            return zeros;
        }
    }
}
