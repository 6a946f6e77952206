import java.util.ArrayList;
import java.util.List;

/** Makes up FILES that are mostly sound: it keeps the KINDS while it writes CODE, and its MAPS tell them. */
final class MadeUp {
    private static final String[] WORDS = {"abs", "root", "floor", "sign", "main", "half", "zz"};
    private static final int JUMPS = 3;

    private static final class Map {
        final int place;
        final List<Integer> locals;
        final List<Integer> stack;

        Map(int place, List<Integer> locals, List<Integer> stack) {
            this.place = place;
            this.locals = new ArrayList<>(locals);
            this.stack = new ArrayList<>(stack);
        }
    }

    private long seed;
    private int[] tags;
    private int[][] takes;
    private int[] gives;

    private int depth;
    private List<Integer> locals;
    private List<Integer> stack;
    private List<Integer> code;
    private List<Map> maps;

    MadeUp(long seed) {
        this.seed = seed;
    }

    /** 0 to most - 1; 0 if most is 0. */
    int below(int most) {
        seed = seed * 6364136223846793005L + 1442695040888963407L;
        return most <= 0 ? 0 : (int) ((seed >>> 33) % most);
    }

    int[] file() {
        FileRow row = FileRow.of(1 + below(2));
        int methods = 1 + below(3);
        int numbers = 2 + below(5);
        row.pool(WORDS.length + numbers);
        tags = new int[WORDS.length + numbers];
        for (int e = 0; e < tags.length; e++) {
            tags[e] = e < WORDS.length ? 3 : 1 + below(2);
            entry(row, e);
        }
        row.methods(methods);
        takes = new int[methods][];
        gives = new int[methods];
        for (int m = 0; m < methods; m++) {
            takes[m] = new int[below(4)];
            for (int i = 0; i < takes[m].length; i++) {
                takes[m][i] = 1 + below(2);
            }
            gives[m] = 1 + below(2);
        }
        for (int m = 0; m < methods; m++) {
            method(row, m);
        }
        return row.sealed();
    }

    private void entry(FileRow row, int e) {
        if (tags[e] == 3) {
            row.word(WORDS[e]);
        } else if (tags[e] == 1) {
            row.anInt(below(3) == 0 ? below(1 << 30) - (1 << 29) : below(10) - 1);
        } else {
            row.aDouble((below(2000) - 1000) / 8.0);
        }
    }

    private void method(FileRow row, int m) {
        int localCount = takes[m].length + below(7 - takes[m].length);
        depth = 1 + below(6);
        locals = new ArrayList<>();
        for (int l = 0; l < localCount; l++) {
            locals.add(l < takes[m].length ? takes[m][l] : 0);
        }
        stack = new ArrayList<>();
        code = new ArrayList<>();
        maps = new ArrayList<>();
        int ops = 3 + below(14);
        for (int i = 0; i < ops && code.size() < 34; i++) {
            op(m);
        }
        end(m);
        row.head(m, gives[m], localCount, depth, takes[m]);
        row.code(code.stream().mapToInt(Integer::intValue).toArray());
        row.maps(maps.size());
        for (Map map : maps) {
            row.add(map.place);
            map.locals.forEach(row::add);
            row.add(map.stack.size());
            map.stack.forEach(row::add);
        }
    }

    private void end(int m) {
        if (below(8) == 0 && !maps.isEmpty() && jumpBack(19)) {
            return;
        }
        if (top() != gives[m]) {
            if (stack.isEmpty() || stack.size() < depth) {
                push(gives[m]);
            } else {
                write(gives[m] == 1 ? 16 : 15);
            }
        }
        write(22);
    }

    private int top() {
        return stack.isEmpty() ? 0 : stack.get(stack.size() - 1);
    }

    private boolean isTop(int kind, int count) {
        int size = stack.size();
        return size >= count && top() == kind && (count < 2 || stack.get(size - 2) == kind);
    }

    private void write(int... bytes) {
        for (int value : bytes) {
            code.add(value);
        }
    }

    private void take(int count) {
        for (int i = 0; i < count; i++) {
            stack.remove(stack.size() - 1);
        }
    }

    private void push(int kind) {
        int entry = WORDS.length + below(tags.length - WORDS.length);
        if (tags[entry] == kind) {
            write(kind, entry);
        } else {
            int l = below(locals.size());
            if (l < locals.size() && locals.get(l) == kind) {
                write(3, l);
            } else if (tags[entry] == 1) {
                write(1, entry, 15);
            } else {
                write(2, entry, 16);
            }
        }
        stack.add(kind);
    }

    private void op(int m) {
        if (below(150) == 0) {
            write(below(30));
        }
        if (below(4) == 0) {
            map();
        }
        int pick = below(16);
        if (stack.size() < depth && (stack.isEmpty() || pick < 5)) {
            push(1 + below(2));
        } else if (pick == 5 && stack.size() < depth) {
            write(5);
            stack.add(top());
        } else if (pick == 6 && !locals.isEmpty()) {
            int l = below(locals.size());
            write(4, l);
            locals.set(l, top());
            take(1);
        } else if (pick == 7) {
            write(6);
            take(1);
        } else if (pick == 8) {
            call();
        } else if (pick == 9 && top() == 1) {
            jump();
        } else if (pick == 10 && top() == 1) {
            write(23);
            stack.set(stack.size() - 1, 2);
        } else if (pick == 11 && stack.size() > 1) {
            leaveAndGoOn(m);
        } else {
            numbers();
        }
    }

    private void numbers() {
        int kind = top();
        if (isTop(kind, 2)) {
            int op = below(5);
            write(kind == 1 ? (op == 4 ? 17 : 7 + op) : op == 4 ? 18 : 11 + op);
            take(2);
            stack.add(op == 4 ? 1 : kind);
        } else if (kind == 2 && below(3) > 0) {
            write(24, below(4));
        } else if (kind != 0) {
            write(kind == 1 ? 15 : 16);
            stack.set(stack.size() - 1, 3 - kind);
        }
    }

    /** A MAP of the KINDS as they are, or with one LOCAL less. */
    private void map() {
        boolean stands = !maps.isEmpty() && maps.get(maps.size() - 1).place == code.size();
        if (maps.size() < 8 && !stands) {
            if (!locals.isEmpty() && below(3) == 0) {
                locals.set(below(locals.size()), 0);
            }
            maps.add(new Map(code.size(), locals, stack));
        }
    }

    private void call() {
        int m = below(takes.length);
        int n = takes[m].length;
        for (int i = 0; i < n && stack.size() < depth; i++) {
            push(takes[m][i]);
        }
        boolean fits = stack.size() >= n;
        for (int i = 0; fits && i < n; i++) {
            fits = stack.get(stack.size() - n + i) == takes[m][i];
        }
        if (fits && stack.size() - n < depth) {
            write(21, m);
            take(n);
            stack.add(gives[m]);
        }
    }

    /** Back to a MAP that fits; or ahead, over a few OPS that leave the STACK as it is. */
    private void jump() {
        if (maps.isEmpty() || below(2) == 0 || !jumpBack(20)) {
            write(20, 0);
            take(1);
            int follows = code.size() - 1;
            for (int i = below(JUMPS); i >= 0; i--) {
                if (stack.size() < depth) {
                    push(1 + below(2));
                    write(6);
                    take(1);
                } else {
                    write(0);
                }
            }
            code.set(follows, code.size());
            map();
        }
    }

    private boolean jumpBack(int op) {
        List<Integer> left = new ArrayList<>(stack);
        if (op == 20) {
            left.remove(left.size() - 1);
        }
        Map map = maps.get(below(maps.size()));
        boolean fits = map.stack.equals(left);
        for (int l = 0; l < locals.size(); l++) {
            fits = fits && (map.locals.get(l) == 0 || map.locals.get(l).equals(locals.get(l)));
        }
        if (fits) {
            write(op, map.place);
            stack = left;
        }
        return fits;
    }

    private void leaveAndGoOn(int m) {
        if (top() == gives[m]) {
            write(22);
            take(1);
            map();
        }
    }
}
