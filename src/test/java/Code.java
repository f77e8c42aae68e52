import java.util.ArrayList;
import java.util.List;

/** Makes files: methods() and then method() for each; and the units of instructions. */
final class Code {
    static final int NOTHING = 0;
    static final int INT = 1;
    static final int LONG = 2;
    static final int FLOAT = 3;
    static final int DOUBLE = 4;

    private final List<Integer> bytes = new ArrayList<>();

    private Code() {
    }

    /** A file without its first eight bytes. */
    static Code methods(int methods, int fields) {
        Code code = new Code();
        code.bytes.add(methods);
        code.bytes.add(fields);
        return code;
    }

    static Code one(int returns, int[] parameters, int registers, int... units) {
        return methods(1, 0).method(returns, parameters, registers, units);
    }

    Code method(int returns, int[] parameters, int registers, int... units) {
        bytes.add(returns);
        bytes.add(parameters.length);
        for (int type : parameters) {
            bytes.add(type);
        }
        bytes.add(registers);
        bytes.add(units.length);
        for (int unit : units) {
            bytes.add(unit & 255);
            bytes.add(unit >> 8 & 255);
        }
        return this;
    }

    int[] toBytes() {
        int[] row = new int[bytes.size()];
        for (int i = 0; i < row.length; i++) {
            row[i] = bytes.get(i);
        }
        return row;
    }

    /** The whole file, its head and check too. */
    int[] toFile() {
        int[] rest = toBytes();
        java.util.zip.Adler32 check = new java.util.zip.Adler32();
        for (int b : rest) {
            check.update(b);
        }
        int[] row = new int[rest.length + 8];
        int[] head = {100, 101, 120, 10};
        System.arraycopy(head, 0, row, 0, 4);
        for (int i = 0; i < 4; i++) {
            row[4 + i] = (int) (check.getValue() >> 8 * i) & 255;
        }
        System.arraycopy(rest, 0, row, 8, rest.length);
        return row;
    }

    static void putAll(PairVm vm, int... row) {
        for (int b : row) {
            vm.put(b);
        }
    }

    int sealInto(PairVm vm) {
        putAll(vm, toBytes());
        return vm.seal();
    }

    PairVm machine() {
        PairVm vm = new PairVm();
        sealInto(vm);
        return vm;
    }

    static int[] types(int... row) {
        return row;
    }

    /** A unit with A and B. */
    static int ab(int operation, int a, int b) {
        return operation | a << 8 | b << 12;
    }

    /** A unit with AA. */
    static int aa(int operation, int register) {
        return operation | (register & 255) << 8;
    }

    /** A unit with C and D. */
    static int cd(int c, int d) {
        return c | d << 8;
    }

    /** The third unit of a 113. */
    static int names(int... registers) {
        int unit = 0;
        for (int i = 0; i < registers.length; i++) {
            unit |= registers[i] << 4 * i;
        }
        return unit;
    }

    /** The units of several rows, one behind the other. */
    static int[] join(int[]... rows) {
        List<Integer> units = new ArrayList<>();
        for (int[] row : rows) {
            for (int unit : row) {
                units.add(unit);
            }
        }
        int[] all = new int[units.size()];
        for (int i = 0; i < all.length; i++) {
            all[i] = units.get(i);
        }
        return all;
    }

    static int[] u(int... units) {
        return units;
    }
}
