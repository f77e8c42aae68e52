/** Promises 13 and 14, and what each instruction does when it is run. */
public final class InstructionTest {
    private static final Checks CHECKS = new Checks();
    private static final double GREATEST = 1152921504606846976.0;
    private static final int[] INTS = {0, 1, -1, 2, -2, 7, -7, 31, 32, 33, 100, 65536, -65536,
        Integer.MAX_VALUE, Integer.MIN_VALUE, Integer.MIN_VALUE + 1};
    private static final long[] LONGS = {0, 1, -1, 3, -3, 1L << 31, 1L << 32, -(1L << 32),
        (1L << 53) + 1, 5000000000L, Long.MAX_VALUE, Long.MIN_VALUE, (1L << 40) + (1L << 16) + 1,
        0x7fffff4000000001L};
    private static final double[] REALS = {0.0, -0.0, 1.0, -1.0, 0.1, -0.1, 1.5, -2.5, 3e9, -3e9,
        1e-300, -1e-300, 1e-40, 1e18, -1e18, GREATEST, -GREATEST, GREATEST / 2, 16777217.0,
        Double.MIN_VALUE, 2147483648.5, 1.17549435E-38};

    public static void main(String[] args) {
        constants();
        ints();
        longs();
        floats();
        doubles();
        comparisons();
        branches();
        negatives();
        casts();
        jumps();
        moves();
        castsAreNotHeld();
        pairsThatLieOverEachOther();
        valueAndReal();
        CHECKS.end("InstructionTest");
    }

    private static void runAll(String what, PairVm vm) {
        CHECKS.same(what + " is fit", vm.verify(0), PairVm.NONE);
        vm.call(0);
        vm.run(200);
        CHECKS.same(what + " has returned", vm.state(), 2);
    }

    private static void constants() {
        for (int b = 0; b < 16; b++) {
            PairVm vm = Code.one(1, Code.types(), 2, Code.ab(18, 1, b), Code.aa(15, 1)).machine();
            runAll("18", vm);
            CHECKS.same("18 of " + b, vm.value(), b < 8 ? b : b - 16);
        }
        int[] numbers = {0, 1, 0x7fff, 0x8000, 0xffff, 300};
        for (int n : numbers) {
            PairVm vm = Code.one(1, Code.types(), 2, Code.aa(19, 1), n, Code.aa(15, 1)).machine();
            runAll("19", vm);
            CHECKS.same("19 of " + n, vm.value(), (short) n);
            vm = Code.one(2, Code.types(), 3, Code.aa(22, 1), n, Code.aa(16, 1)).machine();
            runAll("22", vm);
            CHECKS.same("22 of " + n, vm.value(), (short) n);
        }
    }

    private static void ints() {
        for (int operation = 144; operation <= 154; operation++) {
            PairVm vm = Code.one(1, Code.types(1, 1), 3, operation, Code.cd(1, 2), 15).machine();
            for (int c : INTS) {
                for (int d : INTS) {
                    if (d == 0 && (operation == 147 || operation == 148)) {
                        continue;
                    }
                    if (!fewCalls()) {
                        vm = Code.one(1, Code.types(1, 1), 3, operation, Code.cd(1, 2), 15).machine();
                    }
                    vm.pass(1, c);
                    vm.pass(1, d);
                    runAll("" + operation, vm);
                    CHECKS.same(c + " " + operation + " " + d, vm.value(), ofInts(operation, c, d));
                }
            }
        }
    }

    private static int rounds = 0;

    /** An object is used for 512 calls at the most. */
    private static boolean fewCalls() {
        rounds++;
        return rounds % 30 != 0;
    }

    private static long ofInts(int operation, int c, int d) {
        long wide;
        switch (operation) {
            case 144: wide = (long) c + d; break;
            case 145: wide = (long) c - d; break;
            case 146: wide = (long) c * d; break;
            case 147: wide = (long) c / d; break;
            case 148: wide = (long) c % d; break;
            case 149: wide = c & d; break;
            case 150: wide = c | d; break;
            case 151: wide = c ^ d; break;
            case 152: wide = (long) c << (d & 31); break;
            case 153: wide = Math.floorDiv((long) c, 1L << (d & 31)); break;
            default: wide = (c & 0xffffffffL) / (1L << (d & 31)); break;
        }
        return (int) wide;
    }

    private static void longs() {
        for (int operation = 155; operation <= 159; operation++) {
            PairVm vm = longMachine(operation);
            for (long c : LONGS) {
                for (long d : LONGS) {
                    if (d == 0 && operation >= 158) {
                        continue;
                    }
                    if (!fewCalls()) {
                        vm = longMachine(operation);
                    }
                    vm.pass(2, c);
                    vm.pass(2, d);
                    runAll("" + operation, vm);
                    CHECKS.same(c + " " + operation + " " + d, vm.value(), ofLongs(operation, c, d));
                }
            }
        }
    }

    private static PairVm longMachine(int operation) {
        return Code.one(2, Code.types(2, 2), 6, operation, Code.cd(2, 4), 16).machine();
    }

    private static long ofLongs(int operation, long c, long d) {
        java.math.BigInteger a = java.math.BigInteger.valueOf(c);
        java.math.BigInteger b = java.math.BigInteger.valueOf(d);
        switch (operation) {
            case 155: return a.add(b).longValue();
            case 156: return a.subtract(b).longValue();
            case 157: return a.multiply(b).longValue();
            case 158: return a.divide(b).longValue();
            default: return a.remainder(b).longValue();
        }
    }

    private static double held(double v) {
        return Math.abs(v) > GREATEST ? 0.0 : v;
    }

    private static void floats() {
        for (int operation = 166; operation <= 169; operation++) {
            PairVm vm = Code.one(3, Code.types(3, 3), 3, operation, Code.cd(1, 2), 15).machine();
            for (double c : REALS) {
                for (double d : REALS) {
                    if (!fewCalls()) {
                        vm = Code.one(3, Code.types(3, 3), 3, operation, Code.cd(1, 2), 15).machine();
                    }
                    vm.passReal(3, c);
                    vm.passReal(3, d);
                    runAll("" + operation, vm);
                    CHECKS.sameReal(c + " " + operation + " " + d, vm.real(),
                        ofFloats(operation, (float) c, (float) d));
                }
            }
        }
    }

    private static double ofFloats(int operation, float c, float d) {
        switch (operation) {
            case 166: return held(c + d);
            case 167: return held(c - d);
            case 168: return held(c * d);
            default: return d == 0 ? 0.0 : held(c / d);
        }
    }

    private static void doubles() {
        for (int operation = 171; operation <= 174; operation++) {
            PairVm vm = Code.one(4, Code.types(4, 4), 6, operation, Code.cd(2, 4), 16).machine();
            for (double c : REALS) {
                for (double d : REALS) {
                    if (!fewCalls()) {
                        vm = Code.one(4, Code.types(4, 4), 6, operation, Code.cd(2, 4), 16).machine();
                    }
                    vm.passReal(4, c);
                    vm.passReal(4, d);
                    runAll("" + operation, vm);
                    CHECKS.sameReal(c + " " + operation + " " + d, vm.real(),
                        ofDoubles(operation, c, d));
                }
            }
        }
    }

    private static double ofDoubles(int operation, double c, double d) {
        switch (operation) {
            case 171: return held(c + d);
            case 172: return held(c - d);
            case 173: return held(c * d);
            default: return d == 0 ? 0.0 : held(c / d);
        }
    }

    private static void comparisons() {
        double[] reals = {0.0, -0.0, 1.0, -1.0, 0.5, 1e-300, GREATEST, -GREATEST};
        for (double c : reals) {
            for (double d : reals) {
                float floatC = (float) c;
                float floatD = (float) d;
                PairVm vm = Code.one(1, Code.types(3, 3), 3, 45, Code.cd(1, 2), 15).machine();
                vm.passReal(3, c);
                vm.passReal(3, d);
                runAll("45", vm);
                CHECKS.same("45 of " + c + " and " + d, vm.value(),
                    floatC < floatD ? -1 : floatC == floatD ? 0 : 1);
                vm = Code.one(1, Code.types(4, 4), 5, 47, Code.cd(1, 3), 15).machine();
                vm.passReal(4, c);
                vm.passReal(4, d);
                runAll("47", vm);
                CHECKS.same("47 of " + c + " and " + d, vm.value(), c < d ? -1 : c == d ? 0 : 1);
            }
        }
        for (long c : LONGS) {
            for (long d : LONGS) {
                PairVm vm = Code.one(1, Code.types(2, 2), 5, 49, Code.cd(1, 3), 15).machine();
                vm.pass(2, c);
                vm.pass(2, d);
                runAll("49", vm);
                CHECKS.same("49 of " + c + " and " + d, vm.value(), c < d ? -1 : c == d ? 0 : 1);
            }
        }
    }

    private static void branches() {
        int[] numbers = {0, 1, -1, Integer.MAX_VALUE, Integer.MIN_VALUE};
        for (int a : numbers) {
            for (int b : numbers) {
                boolean[] due = {a == b, a != b, a < b, a >= b, a > b, a <= b};
                for (int i = 0; i < 6; i++) {
                    PairVm vm = Code.one(1, Code.types(1, 1), 2, Code.ab(50 + i, 0, 1), 4,
                        18, 15, 18 | 1 << 12, 15).machine();
                    vm.pass(1, a);
                    vm.pass(1, b);
                    runAll("a branch", vm);
                    CHECKS.same((50 + i) + " of " + a + " and " + b, vm.value(), due[i] ? 1 : 0);
                }
            }
            boolean[] due = {a == 0, a != 0, a < 0, a >= 0, a > 0, a <= 0};
            for (int i = 0; i < 6; i++) {
                PairVm vm = Code.one(1, Code.types(1), 10, Code.aa(56 + i, 9), 4,
                    18, 15, 18 | 1 << 12, 15).machine();
                vm.pass(1, a);
                runAll("a branch", vm);
                CHECKS.same((56 + i) + " of " + a, vm.value(), due[i] ? 1 : 0);
            }
        }
    }

    /** What comes of one argument of a type, as another type. */
    private static PairVm ofOne(int operation, int from, int to, Object argument) {
        int width = to == 2 || to == 4 ? 2 : 1;
        int words = from == 2 || from == 4 ? 2 : 1;
        PairVm vm = Code.one(to, Code.types(from), width + words, Code.ab(operation, 0, width),
            width == 2 ? 16 : 15).machine();
        if (argument instanceof Long) {
            vm.pass(from, (Long) argument);
        } else {
            vm.passReal(from, (Double) argument);
        }
        runAll(operation + " of " + argument, vm);
        return vm;
    }

    private static void negatives() {
        for (int v : INTS) {
            CHECKS.same("123 of " + v, ofOne(123, 1, 1, (long) v).value(), (int) -(long) v);
        }
        for (long v : LONGS) {
            CHECKS.same("125 of " + v, ofOne(125, 2, 2, v).value(), ~v + 1);
        }
        for (double v : REALS) {
            CHECKS.sameReal("127 of " + v, ofOne(127, 3, 3, v).real(), -(float) v);
            CHECKS.sameReal("128 of " + v, ofOne(128, 4, 4, v).real(), -v);
        }
    }

    private static void casts() {
        for (int v : INTS) {
            CHECKS.same("129 of " + v, ofOne(129, 1, 2, (long) v).value(), v);
            CHECKS.sameReal("130 of " + v, ofOne(130, 1, 3, (long) v).real(), (float) v);
            CHECKS.sameReal("131 of " + v, ofOne(131, 1, 4, (long) v).real(), v);
        }
        for (long v : LONGS) {
            CHECKS.same("132 of " + v, ofOne(132, 2, 1, v).value(), (int) v);
            CHECKS.sameReal("133 of " + v, ofOne(133, 2, 3, v).real(), (float) v);
            CHECKS.sameReal("134 of " + v, ofOne(134, 2, 4, v).real(), (double) v);
        }
        for (double v : REALS) {
            CHECKS.same("135 of " + v, ofOne(135, 3, 1, v).value(), (int) (float) v);
            CHECKS.same("136 of " + v, ofOne(136, 3, 2, v).value(), (long) (float) v);
            CHECKS.sameReal("137 of " + v, ofOne(137, 3, 4, v).real(), (float) v);
            CHECKS.same("138 of " + v, ofOne(138, 4, 1, v).value(), (int) v);
            CHECKS.same("139 of " + v, ofOne(139, 4, 2, v).value(), (long) v);
            CHECKS.sameReal("140 of " + v, ofOne(140, 4, 3, v).real(), (float) v);
        }
    }

    private static void jumps() {
        PairVm vm = Code.one(1, Code.types(), 1, Code.aa(40, 4), 18 | 1 << 12, 15, 14 << 8 | 0,
            18 | 2 << 12, Code.aa(40, -3)).machine();
        runAll("forwards and back", vm);
        CHECKS.same("2", vm.value(), 2);
        int[] far = new int[40];
        far[0] = 18 | 3 << 12;
        far[1] = Code.aa(40, 38);
        far[39] = Code.aa(40, -1);
        far[38] = Code.aa(40, -36);
        far[2] = 15;
        vm = Code.one(1, Code.types(), 1, far).machine();
        vm.call(0);
        CHECKS.same("far", vm.run(200), 5);
        CHECKS.same("3", vm.value(), 3);
        vm = Code.one(0, Code.types(), 0, Code.aa(40, 0)).machine();
        vm.call(0);
        CHECKS.same("to itself", vm.run(200), 200);
        CHECKS.same("at", vm.at(0), 0);
        vm = Code.one(0, Code.types(), 1, 18, 56, 0).machine();
        CHECKS.same("a last branch", vm.verify(0), 1);
        vm = Code.one(0, Code.types(), 1, 18, 56, 0, 14).machine();
        vm.call(0);
        CHECKS.same("a branch to itself", vm.run(200), 200);
        CHECKS.same("at", vm.at(0), 1);
    }

    private static void moves() {
        PairVm vm = Code.one(1, Code.types(1), 10, Code.ab(1, 3, 9), Code.ab(1, 9, 3),
            Code.ab(1, 0, 9), 15).machine();
        vm.pass(1, -123456789);
        runAll("an INT", vm);
        CHECKS.same("an INT", vm.value(), -123456789);
        vm = Code.one(3, Code.types(3), 10, Code.ab(1, 3, 9), Code.ab(1, 0, 3), 15).machine();
        vm.passReal(3, 0.1);
        runAll("a FLOAT", vm);
        CHECKS.sameReal("a FLOAT", vm.real(), 0.1f);
        vm = Code.one(4, Code.types(4), 10, Code.ab(4, 3, 8), Code.ab(4, 0, 3), 16).machine();
        vm.passReal(4, 0.1);
        runAll("a DOUBLE", vm);
        CHECKS.sameReal("a DOUBLE", vm.real(), 0.1);
    }

    private static void castsAreNotHeld() {
        PairVm vm = ofOne(134, 2, 4, Long.MAX_VALUE);
        CHECKS.sameReal("above 2 to the 60", vm.real(), 9223372036854775808.0);
        CHECKS.same("cast back", vm.value(), Long.MAX_VALUE);
        vm = Code.one(3, Code.types(2), 4, Code.ab(133, 0, 2), 127, 15).machine();
        vm.pass(2, Long.MIN_VALUE);
        runAll("its negative", vm);
        CHECKS.sameReal("nor is it", vm.real(), 9223372036854775808.0);
        vm = Code.one(4, Code.types(2), 4, Code.ab(134, 0, 2), Code.aa(22, 2), 1,
            171, Code.cd(0, 2), 16).machine();
        CHECKS.same("a LONG isn't a DOUBLE", vm.verify(0), 3);
        vm = Code.one(4, Code.types(2), 4, Code.ab(134, 0, 2), Code.ab(134, 2, 2),
            Code.aa(173, 0), Code.cd(0, 2), 16).machine();
        vm.pass(2, Long.MAX_VALUE);
        runAll("its product", vm);
        CHECKS.sameReal("is", vm.real(), 0.0);
        vm = Code.one(3, Code.types(2), 4, Code.ab(133, 0, 2), Code.aa(168, 0), Code.cd(0, 0), 15)
            .machine();
        vm.pass(2, Long.MIN_VALUE);
        runAll("a FLOAT's product", vm);
        CHECKS.sameReal("is", vm.real(), 0.0);
        vm = Code.one(4, Code.types(4, 4), 6, 171, Code.cd(2, 4), 16).machine();
        vm.passReal(4, GREATEST / 2);
        vm.passReal(4, GREATEST / 2);
        runAll("2 to the 60", vm);
        CHECKS.sameReal("may be", vm.real(), GREATEST);
        vm.passReal(4, GREATEST);
        vm.passReal(4, 128);
        runAll("a little more is 2 to the 60 again", vm);
        CHECKS.sameReal("may be", vm.real(), GREATEST);
        vm.passReal(4, GREATEST);
        vm.passReal(4, 256);
        runAll("more", vm);
        CHECKS.sameReal("is 0", vm.real(), 0.0);
    }

    /** A pair is read as a whole before another one is set. */
    private static void pairsThatLieOverEachOther() {
        PairVm vm = Code.one(2, Code.types(2), 3, Code.ab(4, 0, 1), 16).machine();
        vm.pass(2, 0x123456789abcdefL);
        runAll("moved down by one", vm);
        CHECKS.same("moved down by one", vm.value(), 0x123456789abcdefL);
        vm = Code.one(2, Code.types(2), 3, Code.ab(4, 0, 1), Code.ab(4, 1, 0), Code.aa(16, 1)).machine();
        vm.pass(2, 0x123456789abcdefL);
        runAll("and up again", vm);
        CHECKS.same("and up again", vm.value(), 0x123456789abcdefL);
        vm = Code.one(2, Code.types(2), 3, Code.aa(155, 0), Code.cd(1, 1), 16).machine();
        vm.pass(2, 0x123456789abcdefL);
        runAll("a sum", vm);
        CHECKS.same("a sum", vm.value(), 2 * 0x123456789abcdefL);
        vm = Code.one(2, Code.types(2), 2, Code.ab(125, 0, 0), 16).machine();
        vm.pass(2, 5000000000L);
        runAll("a negative of itself", vm);
        CHECKS.same("a negative of itself", vm.value(), -5000000000L);
        vm = Code.one(1, Code.types(2), 2, Code.ab(132, 1, 0), Code.aa(15, 1)).machine();
        vm.pass(2, 5000000007L);
        runAll("a cast on its second", vm);
        CHECKS.same("a cast on its second", vm.value(), (int) 5000000007L);
        vm = Code.one(4, Code.types(1), 2, Code.ab(131, 0, 1), 16).machine();
        vm.pass(1, 9);
        runAll("a cast over it", vm);
        CHECKS.sameReal("a cast over it", vm.real(), 9.0);
        vm = Code.one(1, Code.types(4, 4), 4, Code.aa(47, 3), Code.cd(2, 0), Code.aa(15, 3)).machine();
        vm.passReal(4, 2);
        vm.passReal(4, 3);
        runAll("compared on its second", vm);
        CHECKS.same("compared on its second", vm.value(), 1);
    }

    private static void valueAndReal() {
        PairVm vm = ofOne(123, 1, 1, 5L);
        CHECKS.same("an INT", vm.value(), -5);
        CHECKS.sameReal("as a real", vm.real(), -5.0);
        vm = ofOne(125, 2, 2, -Long.MAX_VALUE);
        CHECKS.same("a LONG", vm.value(), Long.MAX_VALUE);
        CHECKS.sameReal("as a real", vm.real(), 9223372036854775807.0);
        double[] reals = {-0.0, 0.9, -0.9, -1.9, 1e18, 0.1};
        for (double v : reals) {
            vm = ofOne(127, 3, 3, -v);
            CHECKS.same("a FLOAT", vm.value(), (long) (float) v);
            CHECKS.sameReal("as it is", vm.real(), (float) v);
            vm = ofOne(128, 4, 4, -v);
            CHECKS.same("a DOUBLE", vm.value(), (long) v);
            CHECKS.sameReal("as it is", vm.real(), v);
        }
        vm = Code.one(0, Code.types(1), 1, 14).machine();
        vm.pass(1, 5);
        runAll("nothing", vm);
        CHECKS.same("nothing", vm.value(), 0);
        CHECKS.sameReal("nothing", vm.real(), 0.0);
    }
}
