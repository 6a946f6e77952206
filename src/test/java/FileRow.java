import java.util.ArrayList;
import java.util.List;

/** Builds the bytes of a FILE part by part; the SUM comes last, by sealed(). */
final class FileRow {
    static final int INT = 1;
    static final int DOUBLE = 2;

    private final List<Integer> bytes = new ArrayList<>();

    static FileRow of(int version) {
        return new FileRow().add(73, 78, version);
    }

    FileRow add(int... more) {
        for (int value : more) {
            bytes.add(value);
        }
        return this;
    }

    FileRow pool(int entries) {
        return add(entries);
    }

    FileRow anInt(int value) {
        add(1);
        return big(value, 4);
    }

    FileRow aDouble(double value) {
        return doubleBits(Double.doubleToRawLongBits(value));
    }

    FileRow doubleBits(long bits) {
        add(2);
        return big(bits, 8);
    }

    FileRow word(String letters) {
        add(3, letters.length());
        for (char letter : letters.toCharArray()) {
            add(letter);
        }
        return this;
    }

    FileRow methods(int count) {
        return add(count);
    }

    /** The head of a METHOD: its NAME's entry, what it GIVES, LOCALS, STACK, and what it TAKES. */
    FileRow head(int name, int gives, int locals, int stack, int... takes) {
        return add(name, takes.length).add(takes).add(gives, locals, stack);
    }

    FileRow code(int... code) {
        return add(code.length).add(code);
    }

    FileRow maps(int count) {
        return add(count);
    }

    /** A METHOD that goes round for ever: sound with any NAME, and without any other entry. */
    FileRow endless(int name) {
        return head(name, INT, 0, 1).code(19, 0).maps(1).add(0, 0);
    }

    FileRow set(int i, int value) {
        bytes.set(i, value);
        return this;
    }

    private FileRow big(long value, int size) {
        for (int i = size - 1; i >= 0; i--) {
            add((int) (value >>> (8 * i)) & 255);
        }
        return this;
    }

    int size() {
        return bytes.size();
    }

    /** The bytes so far, with their SUM. */
    int[] sealed() {
        int[] row = new int[bytes.size() + 1];
        int sum = 0;
        for (int i = 0; i < bytes.size(); i++) {
            row[i] = bytes.get(i);
            sum += row[i];
        }
        row[bytes.size()] = sum % 256;
        return row;
    }

    /** An object whose TAPE holds the row. */
    static InstrumentFiles fed(int... row) {
        InstrumentFiles it = new InstrumentFiles();
        feed(it, row);
        return it;
    }

    static void feed(InstrumentFiles it, int... row) {
        for (int at = 0; at < row.length; at += 8) {
            int n = Math.min(8, row.length - at);
            long w = 0;
            for (int i = 0; i < n; i++) {
                w = (w << 8) | row[at + i];
            }
            it.feed(w, n);
        }
    }

    static long bits(double value) {
        return Double.doubleToLongBits(value);
    }
}
