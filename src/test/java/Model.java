import java.util.ArrayList;
import java.util.HashSet;
import java.util.List;
import java.util.Set;

/** The document once more, in plain Java with all its library: what the program's answers are compared with. */
final class Model {
    private static final List<String> LISTED = List.of("abs", "root", "floor", "sign");

    private static final class Refused extends RuntimeException {
        private static final long serialVersionUID = 1;
        final int fault;
        final int place;

        Refused(int fault, int place) {
            super(null, null, false, false);
            this.fault = fault;
            this.place = place;
        }
    }

    private static final class Failed extends RuntimeException {
        private static final long serialVersionUID = 1;
        final int why;
        final int place;

        Failed(int why, int place) {
            super(null, null, false, false);
            this.why = why;
            this.place = place;
        }
    }

    /** KINDS of LOCALS and STACK; as a MAP it has a place. */
    private static final class Shape {
        int place;
        List<Integer> locals = new ArrayList<>();
        List<Integer> stack = new ArrayList<>();

        Shape copy() {
            Shape other = new Shape();
            other.locals.addAll(locals);
            other.stack.addAll(stack);
            return other;
        }

        boolean isMetBy(Shape other) {
            for (int l = 0; l < locals.size(); l++) {
                if (locals.get(l) != 0 && !locals.get(l).equals(other.locals.get(l))) {
                    return false;
                }
            }
            return stack.equals(other.stack);
        }
    }

    private static final class Part {
        int name;
        List<Integer> takes = new ArrayList<>();
        int gives;
        int locals;
        int stack;
        int[] code;
        List<Shape> maps = new ArrayList<>();
        Shape[] judged;
        int failed;

        Shape mapAt(int place) {
            for (Shape map : maps) {
                if (map.place == place) {
                    return map;
                }
            }
            return null;
        }
    }

    private static final class Read {
        int version;
        List<Object> pool = new ArrayList<>();
        List<Part> parts = new ArrayList<>();
    }

    final List<Integer> tape = new ArrayList<>();
    private final double[] table = new double[8];
    private Read file = new Read();
    private int latestFault;
    private int calls;
    private int at;

    private int failure;
    private int steps;
    private int outermost;
    private int failedPlace;
    private int deepest;
    private long given;
    private int most;

    // ---- the TAPE

    int feed(long w, int n) {
        if (n < 1 || n > 8) {
            return -102;
        }
        if (tape.size() + n > 500) {
            return -104;
        }
        String digits = String.format("%016x", w);
        for (int i = 16 - 2 * n; i < 16; i += 2) {
            tape.add(Integer.parseInt(digits.substring(i, i + 2), 16));
        }
        return tape.size();
    }

    int wipe() {
        int had = tape.size();
        tape.clear();
        return had;
    }

    int alter(int i, int mask) {
        if (i < 0 || i >= tape.size()) {
            return -101;
        }
        if (mask < 0 || mask > 255) {
            return -102;
        }
        tape.set(i, tape.get(i) ^ mask);
        return tape.get(i);
    }

    int at(int i) {
        return i < 0 || i >= tape.size() ? -101 : tape.get(i);
    }

    int seal() {
        if (tape.isEmpty()) {
            return -103;
        }
        int sum = 0;
        for (int i = 0; i < tape.size() - 1; i++) {
            sum += tape.get(i);
        }
        tape.set(tape.size() - 1, sum % 256);
        return sum % 256;
    }

    // ---- reading

    private int next(int fault, int low, int high) {
        if (at == tape.size()) {
            throw new Refused(1, at);
        }
        int value = tape.get(at);
        if (value < low || value > high) {
            throw new Refused(fault, at);
        }
        at++;
        return value;
    }

    private Read parse() {
        at = 0;
        Read it = new Read();
        next(2, 73, 73);
        next(2, 78, 78);
        it.version = next(2, 1, 2);
        int p = next(3, 0, 16);
        for (int e = 0; e < p; e++) {
            it.pool.add(parseEntry());
        }
        int m = next(3, 1, 5);
        for (int i = 0; i < m; i++) {
            it.parts.add(parsePart(it));
        }
        int sum = 0;
        for (int i = 0; i < at; i++) {
            sum += tape.get(i);
        }
        next(9, sum % 256, sum % 256);
        if (at != tape.size()) {
            throw new Refused(10, at);
        }
        return it;
    }

    private Object parseEntry() {
        int tag = next(4, 1, 3);
        if (tag == 1) {
            int value = 0;
            for (int i = 0; i < 4; i++) {
                value = value * 256 + next(0, 0, 255);
            }
            return value;
        }
        if (tag == 2) {
            long value = 0;
            for (int i = 0; i < 8; i++) {
                value = value * 256 + next(0, 0, 255);
            }
            return Double.longBitsToDouble(value);
        }
        StringBuilder letters = new StringBuilder();
        int n = next(3, 1, 8);
        for (int i = 0; i < n; i++) {
            letters.append((char) next(5, 97, 122));
        }
        return letters.toString();
    }

    private Part parsePart(Read it) {
        Part part = new Part();
        part.name = next(6, 0, 255);
        if (part.name >= it.pool.size() || !(it.pool.get(part.name) instanceof String)) {
            throw new Refused(6, at - 1);
        }
        for (Part other : it.parts) {
            if (it.pool.get(other.name).equals(it.pool.get(part.name))) {
                throw new Refused(6, at - 1);
            }
        }
        int n = next(3, 0, 3);
        for (int i = 0; i < n; i++) {
            part.takes.add(next(7, 1, 2));
        }
        part.gives = next(7, 1, 2);
        part.locals = next(3, n, 6);
        part.stack = next(3, 1, 6);
        part.code = new int[next(3, 1, 48)];
        for (int i = 0; i < part.code.length; i++) {
            part.code[i] = next(0, 0, 255);
        }
        int k = next(3, 0, 8);
        for (int i = 0; i < k; i++) {
            part.maps.add(parseMap(part));
        }
        return part;
    }

    private Shape parseMap(Part part) {
        Shape map = new Shape();
        int above = part.maps.isEmpty() ? -1 : part.maps.get(part.maps.size() - 1).place;
        map.place = next(8, 0, 255);
        if (map.place >= part.code.length || map.place <= above) {
            throw new Refused(8, at - 1);
        }
        for (int l = 0; l < part.locals; l++) {
            map.locals.add(next(7, 0, 2));
        }
        int d = next(3, 0, part.stack);
        for (int i = 0; i < d; i++) {
            map.stack.add(next(7, 1, 2));
        }
        return map;
    }

    // ---- judging

    private static int sizeOf(int op) {
        return Set.of(1, 2, 3, 4, 19, 20, 21, 24).contains(op) ? 2 : 1;
    }

    private void judge(Read it, Part part) {
        part.judged = new Shape[part.code.length];
        Shape now = new Shape();
        now.locals.addAll(part.takes);
        while (now.locals.size() < part.locals) {
            now.locals.add(0);
        }
        int place = 0;
        Set<Integer> begun = new HashSet<>();
        while (place < part.code.length) {
            begun.add(place);
            now = judgeOp(it, part, place, now);
            place += sizeOf(part.code[place]);
        }
        for (Shape map : part.maps) {
            if (!begun.contains(map.place)) {
                throw new Refused(11, map.place);
            }
        }
    }

    /** The KINDS behind the OP, null where they are not AT HAND. */
    private Shape judgeOp(Read it, Part part, int place, Shape ahead) {
        Shape map = part.mapAt(place);
        if (map == null ? ahead == null : ahead != null && !map.isMetBy(ahead)) {
            throw new Refused(11, place);
        }
        Shape now = (map == null ? ahead : map).copy();
        part.judged[place] = now.copy();
        int op = part.code[place];
        if (op > 24) {
            throw new Refused(12, place);
        }
        int behind = place + sizeOf(op);
        if (behind > part.code.length || behind == part.code.length && op != 19 && op != 22) {
            throw new Refused(13, place);
        }
        int x = sizeOf(op) == 2 ? part.code[place + 1] : 0;
        boolean found = switch (op) {
            case 1 -> x < it.pool.size() && it.pool.get(x) instanceof Integer;
            case 2 -> x < it.pool.size() && it.pool.get(x) instanceof Double;
            case 24 -> x < it.pool.size() && LISTED.contains(it.pool.get(x));
            case 21 -> x < it.parts.size();
            case 3, 4 -> x < part.locals;
            default -> true;
        };
        if (!found) {
            throw new Refused(14, place);
        }
        List<Integer> taken = switch (op) {
            case 4, 5, 6 -> List.of(0);
            case 7, 8, 9, 10, 17 -> List.of(1, 1);
            case 11, 12, 13, 14, 18 -> List.of(2, 2);
            case 15, 20, 23 -> List.of(1);
            case 16, 24 -> List.of(2);
            case 21 -> it.parts.get(x).takes;
            case 22 -> List.of(part.gives);
            default -> List.of();
        };
        if (now.stack.size() < taken.size()) {
            throw new Refused(15, place);
        }
        int top = 0;
        for (int i = taken.size() - 1; i >= 0; i--) {
            top = now.stack.remove(now.stack.size() - 1);
            if (taken.get(i) != 0 && taken.get(i) != top) {
                throw new Refused(16, place);
            }
        }
        if (op == 3 && now.locals.get(x) == 0) {
            throw new Refused(16, place);
        }
        List<Integer> pushed = switch (op) {
            case 1, 7, 8, 9, 10, 16, 17, 18 -> List.of(1);
            case 2, 11, 12, 13, 14, 15, 23, 24 -> List.of(2);
            case 3 -> List.of(now.locals.get(x));
            case 5 -> List.of(top, top);
            case 21 -> List.of(it.parts.get(x).gives);
            default -> List.of();
        };
        now.stack.addAll(pushed);
        if (now.stack.size() > part.stack) {
            throw new Refused(17, place);
        }
        if (op == 4) {
            now.locals.set(x, top);
        }
        if (op == 19 || op == 20) {
            Shape target = part.mapAt(x);
            if (target == null || !target.isMetBy(now)) {
                throw new Refused(18, place);
            }
        }
        return op == 19 || op == 22 ? null : now;
    }

    int read() {
        calls = 0;
        file = new Read();
        Read it;
        try {
            it = parse();
        } catch (Refused refused) {
            latestFault = refused.fault;
            return -200 - refused.place;
        }
        for (int m = 0; m < it.parts.size(); m++) {
            try {
                judge(it, it.parts.get(m));
            } catch (Refused refused) {
                latestFault = refused.fault;
                return -1000 - 50 * m - refused.place;
            }
        }
        latestFault = 0;
        file = it;
        return it.parts.size();
    }

    int fault() {
        return latestFault;
    }

    // ---- running

    private static Object number(int kind, long bits) {
        if (kind == 1) {
            return (int) bits;
        }
        return Double.longBitsToDouble(bits);
    }

    private static long bitsOf(Object number) {
        return number instanceof Integer i ? i : Double.doubleToLongBits((Double) number);
    }

    int call(int m, long a, long b, long c, int told) {
        if (m < 0 || m >= file.parts.size()) {
            return -101;
        }
        if (told < 1 || told > 1000) {
            return -102;
        }
        Part part = file.parts.get(m);
        if (part.failed >= 3) {
            return -103;
        }
        calls++;
        failure = 0;
        steps = 0;
        outermost = m;
        failedPlace = -1;
        deepest = 0;
        given = 0;
        most = told;
        List<Object> taken = new ArrayList<>();
        long[] bits = {a, b, c};
        for (int i = 0; i < part.takes.size(); i++) {
            taken.add(number(part.takes.get(i), bits[i]));
        }
        try {
            given = bitsOf(runPart(part, taken, 1));
        } catch (Failed failed) {
            failure = failed.why;
            failedPlace = failed.place;
            if (failure <= 2) {
                part.failed++;
            }
        }
        return failure == 0 ? 1 : 0;
    }

    private Object runPart(Part part, List<Object> taken, int depth) {
        deepest = Math.max(deepest, depth);
        Object[] locals = new Object[part.locals];
        for (int i = 0; i < taken.size(); i++) {
            locals[i] = taken.get(i);
        }
        List<Object> stack = new ArrayList<>();
        int place = 0;
        while (true) {
            if (steps == most) {
                throw new Failed(3, place);
            }
            steps++;
            int op = part.code[place];
            int x = sizeOf(op) == 2 ? part.code[place + 1] : 0;
            int next = place + sizeOf(op);
            switch (op) {
                case 0 -> { }
                case 1, 2 -> stack.add(file.pool.get(x));
                case 3 -> stack.add(locals[x]);
                case 4 -> locals[x] = pop(stack);
                case 5 -> stack.add(stack.get(stack.size() - 1));
                case 6 -> pop(stack);
                case 7, 8, 9, 10, 17 -> {
                    int second = (Integer) pop(stack);
                    int first = (Integer) pop(stack);
                    if (op == 10 && second == 0) {
                        throw new Failed(1, place);
                    }
                    stack.add(ints(op, first, second));
                }
                case 11, 12, 13, 14, 18 -> {
                    double second = (Double) pop(stack);
                    double first = (Double) pop(stack);
                    stack.add(doubles(op, first, second));
                }
                case 15 -> stack.add((double) (Integer) pop(stack));
                case 16 -> stack.add((int) (double) (Double) pop(stack));
                case 19 -> next = x;
                case 20 -> next = (Integer) pop(stack) == 0 ? x : next;
                case 21 -> {
                    if (depth == 8) {
                        throw new Failed(4, place);
                    }
                    int n = file.parts.get(x).takes.size();
                    List<Object> tail = stack.subList(stack.size() - n, stack.size());
                    List<Object> arguments = new ArrayList<>(tail);
                    tail.clear();
                    stack.add(runPart(file.parts.get(x), arguments, depth + 1));
                }
                case 22 -> {
                    return pop(stack);
                }
                case 23 -> {
                    int i = (Integer) pop(stack);
                    if (i < 0 || i > 7) {
                        throw new Failed(2, place);
                    }
                    stack.add(table[i]);
                }
                default -> stack.add(listed((String) file.pool.get(x), (Double) pop(stack)));
            }
            place = next;
        }
    }

    private static Object pop(List<Object> stack) {
        return stack.remove(stack.size() - 1);
    }

    private static Object ints(int op, int x, int y) {
        return switch (op) {
            case 7 -> x + y;
            case 8 -> x - y;
            case 9 -> x * y;
            case 10 -> x / y;
            default -> x < y ? 1 : 0;
        };
    }

    private static Object doubles(int op, double x, double y) {
        if (op == 18) {
            return x < y ? 1 : 0;
        }
        return switch (op) {
            case 11 -> x + y;
            case 12 -> x - y;
            case 13 -> x * y;
            default -> x / y;
        };
    }

    private static double listed(String word, double x) {
        return switch (word) {
            case "abs" -> Math.abs(x);
            case "root" -> Math.sqrt(x);
            case "floor" -> Math.floor(x);
            default -> Math.signum(x);
        };
    }

    // ---- asking

    int table(int i, long bits) {
        if (i < 0 || i > 7) {
            return -101;
        }
        table[i] = Double.longBitsToDouble(bits);
        return 1;
    }

    int method(int m, int what) {
        if (m < 0 || m >= file.parts.size()) {
            return -101;
        }
        Part part = file.parts.get(m);
        int[] answers = {part.takes.size(), part.gives, part.locals, part.stack, part.code.length,
            part.maps.size(), part.name, part.failed, part.failed == 3 ? 1 : 0};
        return what < 0 || what >= answers.length ? -102 : answers[what];
    }

    long pool(int e, int what) {
        if (e < 0 || e >= file.pool.size()) {
            return -101;
        }
        Object entry = file.pool.get(e);
        if (what == 0) {
            return entry instanceof Integer ? 1 : entry instanceof Double ? 2 : 3;
        }
        if (what != 1) {
            return -102;
        }
        return entry instanceof String word ? word.length() : bitsOf(entry);
    }

    int kind(int m, int place, int k) {
        if (m < 0 || m >= file.parts.size()) {
            return -101;
        }
        Part part = file.parts.get(m);
        if (place < 0 || place >= part.code.length || part.judged[place] == null) {
            return -101;
        }
        Shape shape = part.judged[place];
        if (k > 5 || k < -part.locals) {
            return -102;
        }
        if (k < 0) {
            return shape.locals.get(-1 - k);
        }
        return k < shape.stack.size() ? shape.stack.get(k) : 0;
    }

    long result() {
        return given;
    }

    int told(int what) {
        int[] answers = {failure, steps, outermost, failedPlace, deepest};
        return what < 0 || what > 4 ? -102 : answers[what];
    }

    int count(int what) {
        int[] answers = {tape.size(), file.parts.size(), file.pool.size(), file.version, calls};
        return what < 0 || what > 4 ? -102 : answers[what];
    }
}
