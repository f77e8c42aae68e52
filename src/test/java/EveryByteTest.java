import java.util.Arrays;

/**
 * Every byte of some files as every other value, and every length: what load and seal answer is
 * what another reader tells, which goes through the file's sentences one by one.
 */
public final class EveryByteTest {
    private static final Checks CHECKS = new Checks();
    private static final int FINE = PairVm.NONE;

    public static void main(String[] args) {
        int[][] files = {smallest(), middle(), greatest(), oddGreatest(), fourMethods()};
        for (int[] file : files) {
            CHECKS.same("the file itself", placeOf(file), FINE);
            everyByte(file);
            everyByteWithItsCheck(file);
            everyLength(file);
            twoBytes(file);
        }
        everyCountOfUnits();
        everyRegisterCount();
        checkThatWrapsJustAtItsModulus();
        checkWithItsHighestBit();
        CHECKS.end("EveryByteTest");
    }

    // ---- The files

    private static int[] smallest() {
        return Code.one(0, Code.types(), 0, 14).toFile();
    }

    /** All types as parameters; the first method's count of units, 1, is told in two bytes. */
    private static int[] middle() {
        return withHead(new int[] {
            3, 2,
            1, 3, 1, 2, 3, 4, 129, 0, 15, 0,
            4, 1, 4, 10, 2, 0, 0, 16, 8,
            2, 0, 2, 3, 22, 0, 1, 0, 16, 0});
    }

    private static int[] nothings(int count) {
        int[] units = new int[count];
        units[count - 1] = 14;
        return units;
    }

    /** 220 bytes, in four methods. */
    private static int[] greatest() {
        int[] file = Code.methods(4, 4).method(0, Code.types(), 0, nothings(40))
            .method(0, Code.types(), 10, nothings(40)).method(0, Code.types(), 0, nothings(16))
            .method(0, Code.types(), 0, nothings(1)).toFile();
        CHECKS.same("the greatest file", file.length, 220);
        return file;
    }

    /** 219 bytes. */
    private static int[] oddGreatest() {
        int[] file = Code.methods(4, 0).method(0, Code.types(), 0, nothings(40))
            .method(0, Code.types(), 0, nothings(40)).method(0, Code.types(), 0, nothings(15))
            .method(0, Code.types(1), 1, nothings(1)).toFile();
        CHECKS.same("the greatest file but one byte", file.length, 219);
        return file;
    }

    private static int[] fourMethods() {
        return Code.methods(4, 1).method(0, Code.types(4, 4, 4), 6, 14)
            .method(0, Code.types(2, 1), 3, 14).method(0, Code.types(3), 1, 14)
            .method(0, Code.types(1, 3, 1), 10, 14).toFile();
    }

    private static int[] withHead(int[] rest) {
        int[] file = new int[rest.length + 8];
        System.arraycopy(rest, 0, file, 8, rest.length);
        int[] head = {100, 101, 120, 10};
        System.arraycopy(head, 0, file, 0, 4);
        long check = checkOf(file);
        for (int i = 0; i < 4; i++) {
            file[4 + i] = (int) (check >> 8 * i & 255);
        }
        return file;
    }

    // ---- The other reader

    /** The file is ill where the reader is. */
    private static final class Ill extends RuntimeException {
        private static final long serialVersionUID = 1L;
    }

    private static final class Reader {
        private final int[] file;
        private int at = 0;

        Reader(int[] file) {
            this.file = file;
        }

        int next(int low, int high) {
            if (at == file.length || file[at] < low || file[at] > high) {
                throw new Ill();
            }
            at++;
            return file[at - 1];
        }

        void method() {
            next(0, 4);
            int words = 0;
            for (int p = next(0, 3); p > 0; p--) {
                words += next(1, 4) % 2 == 0 ? 2 : 1;
            }
            next(words, 10);
            for (int u = units(); u > 0; u--) {
                next(0, 255);
                next(0, 255);
            }
        }

        int units() {
            int low = next(0, 255);
            int high = low < 128 ? 0 : next(0, 127);
            int count = low % 128 + 128 * high;
            if (count == 0 || count > 40) {
                at--;
                throw new Ill();
            }
            return count;
        }

        int place() {
            try {
                int[] head = {100, 101, 120, 10};
                for (int b : head) {
                    next(b, b);
                }
                for (int i = 0; i < 4; i++) {
                    next(0, 255);
                }
                int methods = next(1, 4);
                next(0, 4);
                for (int m = 0; m < methods; m++) {
                    method();
                }
            } catch (Ill e) {
                return at;
            }
            return at < file.length ? at : checkOf(file) == toldCheck(file) ? FINE : 4;
        }
    }

    private static int placeOf(int[] file) {
        return new Reader(file).place();
    }

    private static long toldCheck(int[] file) {
        return file[4] + 256L * file[5] + 65536L * file[6] + 16777216L * file[7];
    }

    private static long checkOf(int[] file) {
        java.util.zip.Adler32 check = new java.util.zip.Adler32();
        for (int i = 8; i < file.length; i++) {
            check.update(file[i]);
        }
        return check.getValue();
    }

    // ---- Comparing

    private static void load(String what, int[] file) {
        compare(what, file, placeOf(file), file, false);
    }

    /** What stands behind the first eight bytes is put; seal makes those. */
    private static void seal(String what, int[] file) {
        int[] whole = withHead(Arrays.copyOfRange(file, 8, file.length));
        compare(what, whole, placeOf(whole), Arrays.copyOfRange(file, 8, file.length), true);
    }

    private static void compare(String what, int[] whole, int due, int[] put, boolean seals) {
        PairVm vm = new PairVm();
        for (int b : put) {
            if (!vm.put(b)) {
                CHECKS.same(what + ": a byte was not taken", 0, 1);
            }
        }
        int got = 0;
        try {
            got = seals ? vm.seal() : vm.load();
        } catch (IllegalArgumentException e) {
            got = -1;
        }
        CHECKS.same(what + ": methods", got, due == FINE ? whole[8] : -1);
        CHECKS.same(what + ": place", vm.place(), due);
    }

    private static void everyByte(int[] file) {
        for (int at = 0; at < file.length; at++) {
            int[] other = file.clone();
            for (int b = 0; b < 256; b++) {
                other[at] = b;
                load("byte " + at + " as " + b, other);
            }
        }
    }

    private static void everyByteWithItsCheck(int[] file) {
        for (int at = 8; at < file.length; at++) {
            int[] other = file.clone();
            for (int b = 0; b < 256; b++) {
                other[at] = b;
                seal("byte " + at + " as " + b + ", sealed", other);
            }
        }
    }

    /** "at its length if it ends too early"; "Nothing is behind that". */
    private static void everyLength(int[] file) {
        for (int length = 0; length <= 220; length++) {
            int[] other = Arrays.copyOf(file, length);
            load("length " + length, other);
            if (length >= 8) {
                seal("length " + length + ", sealed", other);
            }
            int due = length < file.length ? length : length == file.length ? FINE : file.length;
            CHECKS.same("as the other reader tells", placeOf(other), due);
        }
    }

    /** "ILL at the first byte that isn't as said": of two it is the first one. */
    private static void twoBytes(int[] file) {
        int[] bad = {0, 5, 11, 41, 128, 255};
        int most = Math.min(file.length, 30);
        for (int one = 0; one < most; one++) {
            for (int other = one + 1; other < most; other++) {
                for (int b : bad) {
                    int[] two = file.clone();
                    two[one] = b;
                    two[other] = 255;
                    load("bytes " + one + " and " + other, two);
                }
            }
        }
    }

    /** "the number of its UNITS, 1 to 40, in groups of seven bits, the lowest first". */
    private static void everyCountOfUnits() {
        for (int low = 0; low < 256; low++) {
            for (int high = 0; high < 256; high++) {
                int count = low < 128 ? low : low - 128 + 128 * high;
                int bytes = low < 128 ? 1 : 2;
                boolean fine = count >= 1 && count <= 40 && (bytes == 1 || high < 128);
                int[] file = new int[13 + bytes + (fine ? 2 * count : 4)];
                file[8] = 1;
                file[13] = low;
                file[14] = high;
                if (!fine || bytes == 2 || high == 0) {
                    seal("a count of " + low + " " + high, file);
                    int[] whole = withHead(Arrays.copyOfRange(file, 8, file.length));
                    CHECKS.same("as the other reader tells", placeOf(whole),
                        fine ? FINE : 12 + bytes);
                }
            }
        }
    }

    /** "the number of its REGISTERS, 0 to 10, at least the WORDS of its parameters". */
    private static void everyRegisterCount() {
        for (int[] types : Rows.ofTypes()) {
            int words = Rows.words(types);
            for (int registers = 0; registers < 256; registers++) {
                int[] file = Code.one(0, types, registers, 14).toFile();
                load("so many registers: " + registers, file);
                CHECKS.same("as the other reader tells", placeOf(file),
                    registers >= words && registers <= 10 ? FINE : 12 + types.length);
            }
        }
    }

    /** "b becomes (b + a) modulo 65521": b is 0 where it comes to just 65521, also at the end. */
    private static void checkThatWrapsJustAtItsModulus() {
        int inside = 0;
        int atTheEnd = 0;
        for (int count = 16; count <= 24; count += 8) {
            for (int i = 0; i < 65536; i++) {
                int[] units = new int[count];
                Arrays.fill(units, 0xff00);
                units[12] = i & 0xff00;
                units[13] = (i & 255) << 8;
                units[count - 1] = 14;
                int[] file = Code.one(0, Code.types(), 0, units).toFile();
                boolean ends = sumOf(file, file.length) == 65521;
                if (ends || wrapsAtTheModulus(file)) {
                    atTheEnd += ends ? 1 : 0;
                    inside += ends ? 0 : 1;
                    load("b is 65521", file);
                    seal("b is 65521", file);
                }
            }
        }
        CHECKS.same("some come to it: " + inside, inside > 0, true);
        CHECKS.same("some end with it: " + atTheEnd, atTheEnd > 0, true);
    }

    /** What b would be without a modulus; a stays below it in a file of 220 bytes. */
    private static long sumOf(int[] file, int length) {
        long a = 1;
        long b = 0;
        for (int i = 8; i < length; i++) {
            a += file[i];
            b += a;
        }
        return b;
    }

    private static boolean wrapsAtTheModulus(int[] file) {
        for (int length = 8; length < file.length; length++) {
            long b = sumOf(file, length);
            if (b >= 65521) {
                return b == 65521;
            }
        }
        return false;
    }

    /** The check's highest byte is 128 and more, and below that: it has no sign. */
    private static void checkWithItsHighestBit() {
        int high = 0;
        int low = 0;
        for (int b = 0; b < 256; b++) {
            int[] file = Code.one(0, Code.types(), 0, b << 8, 0xff00, 0xff00, 0xff00, 0xff00, 0xff00, 0xff00,
                0xff00, 0xff00, 0xff00, 0xff00, 14).toFile();
            high += file[7] >= 128 ? 1 : 0;
            low += file[7] < 128 ? 1 : 0;
            load("a check of " + file[7], file);
            seal("a check of " + file[7], file);
        }
        CHECKS.same("some have it: " + high + ", some don't: " + low, high > 0 && low > 0, true);
    }
}
