/** What instructions make of numbers at their bounds, and promises 13 and 14, a sentence a test. */
public final class NumberEdgesTest {
    private static final Checks CHECKS = new Checks();
    private static final int LEAST = Integer.MIN_VALUE;
    private static final int MOST = Integer.MAX_VALUE;
    private static final long LEAST_LONG = Long.MIN_VALUE;
    private static final long MOST_LONG = Long.MAX_VALUE;
    /** 2 to the 60, and the FLOAT and the DOUBLE right above it. */
    private static final double GREATEST = 1152921504606846976.0;
    private static final double FLOAT_ABOVE = GREATEST + 137438953472.0;
    private static final double DOUBLE_ABOVE = GREATEST + 256.0;
    private static final double FLOAT_BELOW_ONE = 1.0 - 1.0 / (1 << 24);
    private static final double DOUBLE_BELOW_ONE = 1.0 - 1.0 / (1L << 53);

    public static void main(String[] args) {
        intsWrap();
        quotientsAndRestsOfInts();
        shiftsByTheLowestFiveBits();
        longsWrap();
        negativesOfTheLeast();
        castsOfWholeNumbers();
        castsToWholeNumbers();
        castsBeyondAllLongs();
        floatsAbove2ToThe60();
        doublesAbove2ToThe60();
        quotientsByZero();
        whatIsNotHeld();
        minusZeroIsKept();
        minusZeroIsEqualToZero();
        comparisonsAtTheBounds();
        branchesAtTheBounds();
        pairsAreReadAsAWhole();
        valueAndReal();
        CHECKS.end("NumberEdgesTest");
    }

    private static int width(int type) {
        return type % 2 == 0 ? 2 : 1;
    }

    private static void pass(PairVm vm, int type, double real, long whole) {
        CHECKS.same("passed", type <= 2 ? vm.pass(type, whole) : vm.passReal(type, real), true);
    }

    private static PairVm run(Code code, int type, double[] reals, long[] wholes) {
        PairVm vm = code.machine();
        int count = type <= 2 ? wholes.length : reals.length;
        for (int i = 0; i < count; i++) {
            pass(vm, type, type <= 2 ? 0.0 : reals[i], type <= 2 ? wholes[i] : 0L);
        }
        CHECKS.same("fit", vm.verify(0), PairVm.NONE);
        vm.call(0);
        vm.run(200);
        CHECKS.same("returned", vm.state(), 2);
        return vm;
    }

    /** AA becomes what comes of C and D, of a type; the result is of type to. */
    private static PairVm ofTwo(int operation, int type, int to, double[] reals, long[] wholes) {
        int w = width(type);
        Code code = Code.one(to, Code.types(type, type), 2 + 2 * w, operation, Code.cd(2, 2 + w),
            width(to) == 2 ? 16 : 15);
        return run(code, type, reals, wholes);
    }

    private static PairVm ofOne(int operation, int type, int to, double real, long whole) {
        Code code = Code.one(to, Code.types(type), 2 + width(type), Code.ab(operation, 0, 2),
            width(to) == 2 ? 16 : 15);
        return run(code, type, new double[] {real}, new long[] {whole});
    }

    /** Rows of three: two numbers, and what comes of them. */
    private static void wholes(int operation, int type, long... rows) {
        for (int i = 0; i < rows.length; i += 3) {
            PairVm vm = ofTwo(operation, type, type, null, new long[] {rows[i], rows[i + 1]});
            CHECKS.same(operation + " of " + rows[i] + " and " + rows[i + 1], vm.value(), rows[i + 2]);
        }
    }

    private static void reals(int operation, int type, double... rows) {
        for (int i = 0; i < rows.length; i += 3) {
            PairVm vm = ofTwo(operation, type, type, new double[] {rows[i], rows[i + 1]}, null);
            CHECKS.sameReal(operation + " of " + rows[i] + " and " + rows[i + 1], vm.real(), rows[i + 2]);
        }
    }

    private static void intsWrap() {
        wholes(144, 1, MOST, 1, LEAST, LEAST, -1, MOST, LEAST, LEAST, 0, MOST, MOST, -2, 0, 0, 0);
        wholes(145, 1, LEAST, 1, MOST, MOST, -1, LEAST, 0, LEAST, LEAST, LEAST, LEAST, 0);
        wholes(146, 1, LEAST, -1, LEAST, MOST, MOST, 1, 65536, 65536, 0, 46341, 46341, -2147479015,
            65536, 32768, LEAST, LEAST, LEAST, 0);
        wholes(149, 1, -1, LEAST, LEAST, 12, 10, 8);
        wholes(150, 1, LEAST, MOST, -1, 12, 10, 14);
        wholes(151, 1, -1, MOST, LEAST, 12, 10, 6);
    }

    /** "the least number by -1 wraps, its rest is 0". */
    private static void quotientsAndRestsOfInts() {
        wholes(147, 1, LEAST, -1, LEAST, LEAST, 1, LEAST, MOST, -1, -MOST, LEAST, LEAST, 1, 7, -2, -3,
            -7, 2, -3, -7, -2, 3, 1, 2, 0, 0, -1, 0);
        wholes(148, 1, LEAST, -1, 0, LEAST, 1, 0, LEAST, MOST, -1, 7, -2, 1, -7, 2, -1, -7, -2, -1,
            1, LEAST, 1, 0, -1, 0);
    }

    /** "(by the lowest five bits of D's)". */
    private static void shiftsByTheLowestFiveBits() {
        wholes(152, 1, 1, 0, 1, 1, 31, LEAST, 1, 32, 1, 1, 33, 2, 1, -1, LEAST, 1, -32, 1, LEAST, 1, 0,
            3, LEAST, 3, 3, MOST, LEAST);
        wholes(153, 1, LEAST, 0, LEAST, LEAST, 31, -1, LEAST, 32, LEAST, LEAST, 33, -1073741824,
            -1, 31, -1, MOST, 30, 1, MOST, 31, 0, -5, 1, -3, LEAST, -1, -1);
        wholes(154, 1, LEAST, 0, LEAST, LEAST, 31, 1, LEAST, 32, LEAST, LEAST, 33, 1073741824, -1, 1, MOST,
            -1, -1, 1, -1, 0, -1, MOST, 30, 1);
    }

    private static void longsWrap() {
        wholes(155, 2, MOST_LONG, 1, LEAST_LONG, LEAST_LONG, -1, MOST_LONG, MOST, 1, MOST + 1L,
            0xffffffffL, 1, 1L << 32);
        wholes(156, 2, LEAST_LONG, 1, MOST_LONG, 0, LEAST_LONG, LEAST_LONG, LEAST, 1, LEAST - 1L,
            1L << 32, 1, 0xffffffffL);
        wholes(157, 2, LEAST_LONG, -1, LEAST_LONG, 1L << 32, 1L << 32, 0, 1L << 32, 1L << 31, LEAST_LONG,
            MOST_LONG, MOST_LONG, 1, MOST, MOST, 4611686014132420609L);
        wholes(158, 2, LEAST_LONG, -1, LEAST_LONG, LEAST_LONG, 1, LEAST_LONG, LEAST, -1, -(long) LEAST,
            -7, 2, -3, 7, -2, -3, MOST_LONG, LEAST_LONG, 0, LEAST_LONG, LEAST_LONG, 1);
        wholes(159, 2, LEAST_LONG, -1, 0, LEAST_LONG, MOST_LONG, -1, -7, 2, -1, 7, -2, 1,
            LEAST_LONG, 1L << 32, 0, MOST_LONG, 1L << 32, 0xffffffffL);
    }

    private static void negativesOfTheLeast() {
        int[] ints = {LEAST, LEAST + 1, MOST, 0, 1, -1};
        int[] due = {LEAST, MOST, -MOST, 0, -1, 1};
        for (int i = 0; i < ints.length; i++) {
            CHECKS.same("123 of " + ints[i], ofOne(123, 1, 1, 0, ints[i]).value(), due[i]);
        }
        long[] longs = {LEAST_LONG, LEAST_LONG + 1, MOST_LONG, 0, LEAST, 1L << 32};
        long[] dueLongs = {LEAST_LONG, MOST_LONG, -MOST_LONG, 0, 2147483648L, -(1L << 32)};
        for (int i = 0; i < longs.length; i++) {
            CHECKS.same("125 of " + longs[i], ofOne(125, 2, 2, 0, longs[i]).value(), dueLongs[i]);
        }
    }

    /** "as Java's casts": a LONG to an INT is its lowest 32 bits; to FLOAT and DOUBLE, the nearest. */
    private static void castsOfWholeNumbers() {
        long[] longs = {MOST + 1L, LEAST - 1L, 1L << 32, (1L << 32) - 1, LEAST_LONG, MOST_LONG};
        int[] ints = {LEAST, MOST, 0, -1, 0, -1};
        for (int i = 0; i < longs.length; i++) {
            CHECKS.same("132 of " + longs[i], ofOne(132, 2, 1, 0, longs[i]).value(), ints[i]);
        }
        int[] wide = {LEAST, MOST, -1, 0};
        for (int v : wide) {
            CHECKS.same("129 of " + v, ofOne(129, 1, 2, 0, v).value(), v);
            CHECKS.sameReal("131 of " + v, ofOne(131, 1, 4, 0, v).real(), v);
        }
        CHECKS.sameReal("130", ofOne(130, 1, 3, 0, 16777216).real(), 16777216.0);
        CHECKS.sameReal("130, to the even one", ofOne(130, 1, 3, 0, 16777217).real(), 16777216.0);
        CHECKS.sameReal("130, too", ofOne(130, 1, 3, 0, 16777219).real(), 16777220.0);
        CHECKS.sameReal("130 of the greatest", ofOne(130, 1, 3, 0, MOST).real(), 2147483648.0);
        CHECKS.sameReal("130 of the least", ofOne(130, 1, 3, 0, LEAST).real(), -2147483648.0);
        CHECKS.sameReal("133 of the greatest", ofOne(133, 2, 3, 0, MOST_LONG).real(), 8.0 * GREATEST);
        CHECKS.sameReal("133 of the least", ofOne(133, 2, 3, 0, LEAST_LONG).real(), -8.0 * GREATEST);
        // By way of a DOUBLE it would be 2 to the 60.
        long justAboveHalf = (1L << 60) + (1L << 36) + 1;
        CHECKS.sameReal("133 rounds once", ofOne(133, 2, 3, 0, justAboveHalf).real(), FLOAT_ABOVE);
        CHECKS.sameReal("134", ofOne(134, 2, 4, 0, (1L << 53) + 1).real(), 9007199254740992.0);
        CHECKS.sameReal("134, to the even one", ofOne(134, 2, 4, 0, (1L << 53) + 3).real(),
            9007199254740996.0);
        CHECKS.sameReal("134 of the least", ofOne(134, 2, 4, 0, LEAST_LONG).real(), -8.0 * GREATEST);
    }

    /** To the nearest towards 0; what is beyond INTs is the greatest or the least of them. */
    private static void castsToWholeNumbers() {
        double[] floats = {2147483520.0, 2147483648.0, -2147483648.0, -2147483904.0, GREATEST, -GREATEST,
            0.99, -0.99, 1.0, -1.0, -0.0, 1e-40};
        long[] ints = {2147483520, MOST, LEAST, LEAST, MOST, LEAST, 0, 0, 1, -1, 0, 0};
        for (int i = 0; i < floats.length; i++) {
            CHECKS.same("135 of " + floats[i], ofOne(135, 3, 1, floats[i], 0).value(), ints[i]);
            CHECKS.same("136 of " + floats[i], ofOne(136, 3, 2, floats[i], 0).value(),
                (long) (float) floats[i]);
        }
        double[] doubles = {2147483646.99, 2147483647.0, 2147483647.99, 2147483648.0, -2147483647.99,
            -2147483648.0, -2147483648.99, -2147483649.0, GREATEST, -GREATEST, 0.99, -0.99, -0.0};
        long[] dueInts = {2147483646, MOST, MOST, MOST, -2147483647, LEAST, LEAST, LEAST, MOST, LEAST,
            0, 0, 0};
        long[] dueLongs = {2147483646L, MOST, MOST, 2147483648L, -2147483647L, LEAST, LEAST,
            -2147483649L, 1L << 60, -(1L << 60), 0, 0, 0};
        for (int i = 0; i < doubles.length; i++) {
            CHECKS.same("138 of " + doubles[i], ofOne(138, 4, 1, doubles[i], 0).value(), dueInts[i]);
            CHECKS.same("139 of " + doubles[i], ofOne(139, 4, 2, doubles[i], 0).value(), dueLongs[i]);
        }
        CHECKS.sameReal("140 to the even one", ofOne(140, 4, 3, 16777217.0, 0).real(), 16777216.0);
        CHECKS.sameReal("140 to nothing", ofOne(140, 4, 3, 1e-46, 0).real(), 0.0);
        CHECKS.sameReal("140 to nothing, with its sign", ofOne(140, 4, 3, -1e-46, 0).real(), -0.0);
        CHECKS.sameReal("140 up to 2 to the 60",
            ofOne(140, 4, 3, Math.nextDown(GREATEST), 0).real(), GREATEST);
        CHECKS.sameReal("137", ofOne(137, 3, 4, 0.1, 0).real(), 0.1f);
    }

    /** A LONG as a FLOAT or DOUBLE may be 2 to the 63, which as a LONG is the greatest one. */
    private static void castsBeyondAllLongs() {
        int[][] ways = {{134, 139}, {133, 136}};
        for (int[] way : ways) {
            long[] numbers = {MOST_LONG, LEAST_LONG, 1L << 62, -(1L << 62)};
            for (long v : numbers) {
                Code code = Code.one(2, Code.types(2), 4, Code.ab(way[0], 0, 2), Code.ab(way[1], 0, 0), 16);
                PairVm vm = run(code, 2, null, new long[] {v});
                CHECKS.same("there and back", vm.value(), v);
            }
        }
        int[][] toInts = {{134, 138}, {133, 135}};
        for (int[] way : toInts) {
            long[] numbers = {MOST_LONG, LEAST_LONG};
            int[] due = {MOST, LEAST};
            for (int i = 0; i < 2; i++) {
                Code code = Code.one(1, Code.types(2), 4, Code.ab(way[0], 0, 2), Code.ab(way[1], 0, 0), 15);
                CHECKS.same("to an INT", run(code, 2, null, new long[] {numbers[i]}).value(), due[i]);
            }
        }
    }

    /** "above 2 to the 60, or below its negative, is 0.0 instead": 2 to the 60 itself isn't. */
    private static void floatsAbove2ToThe60() {
        double step = FLOAT_ABOVE - GREATEST;
        double half = GREATEST / 2;
        double root = 1 << 30;
        double rootAbove = Math.nextUp((float) root);
        reals(166, 3, half, half, GREATEST, -half, -half, -GREATEST, GREATEST, step, 0.0,
            -GREATEST, -step, 0.0, GREATEST, GREATEST, 0.0, GREATEST, -0.0, GREATEST,
            GREATEST, 1024, GREATEST, -GREATEST, -1024, -GREATEST, GREATEST, step / 2, GREATEST);
        reals(167, 3, half, -half, GREATEST, -half, half, -GREATEST, GREATEST, -step, 0.0,
            -GREATEST, step, 0.0, GREATEST, -1024, GREATEST, -GREATEST, GREATEST, 0.0);
        reals(168, 3, root, root, GREATEST, -root, root, -GREATEST, root, rootAbove, 0.0, -root, rootAbove,
            0.0, GREATEST, GREATEST, 0.0, GREATEST, 1, GREATEST, 1e-30, 1e-30, 0.0, -1e-30, 1e-30, -0.0);
        reals(169, 3, GREATEST, 1, GREATEST, GREATEST, -1, -GREATEST, GREATEST, FLOAT_BELOW_ONE, 0.0,
            GREATEST, -FLOAT_BELOW_ONE, 0.0, 1, 1 / GREATEST, GREATEST, 1, 1e-45, 0.0, -1, 1e-45, 0.0,
            1e-45, GREATEST, 0.0, -1e-45, GREATEST, -0.0);
    }

    private static void doublesAbove2ToThe60() {
        double half = GREATEST / 2;
        double root = 1 << 30;
        double rootAbove = Math.nextUp(root);
        reals(171, 4, half, half, GREATEST, -half, -half, -GREATEST, GREATEST, 256, 0.0, -GREATEST, -256,
            0.0, GREATEST, 128, GREATEST, -GREATEST, -128, -GREATEST, GREATEST, 129, 0.0,
            GREATEST, -128, GREATEST - 128);
        reals(172, 4, half, -half, GREATEST, GREATEST, -256, 0.0, -GREATEST, 256, 0.0, GREATEST, -128,
            GREATEST, -GREATEST, GREATEST, 0.0, GREATEST, GREATEST, 0.0);
        reals(173, 4, root, root, GREATEST, root, -root, -GREATEST, root, rootAbove, 0.0, -root, rootAbove,
            0.0, GREATEST, GREATEST, 0.0, 1e-200, 1e-200, 0.0, -1e-200, 1e-200, -0.0);
        reals(174, 4, GREATEST, 1, GREATEST, GREATEST, -1, -GREATEST, GREATEST, DOUBLE_BELOW_ONE, 0.0,
            GREATEST, -DOUBLE_BELOW_ONE, 0.0, 1, 1 / GREATEST, GREATEST, 1, Double.MIN_VALUE, 0.0,
            -1, Double.MIN_VALUE, 0.0, -Double.MIN_VALUE, 4, -0.0);
        CHECKS.same("the DOUBLE above 2 to the 60 is 256 more", DOUBLE_ABOVE == Math.nextUp(GREATEST), true);
    }

    /** "A quotient of FLOATs or DOUBLEs by 0, or -0.0, is 0.0": never -0.0. */
    private static void quotientsByZero() {
        double[] numbers = {0.0, -0.0, 1.0, -1.0, GREATEST, -GREATEST, 1e-40, -1e-40};
        for (double c : numbers) {
            reals(169, 3, c, 0.0, 0.0, c, -0.0, 0.0);
            reals(174, 4, c, 0.0, 0.0, c, -0.0, 0.0);
        }
        reals(169, 3, 1e-40, 1e-46, 0.0);
        reals(174, 4, 1e-300, 1e-300, 1.0);
    }

    /** "casts aren't held to that": nor are moves and negatives of what was cast. */
    private static void whatIsNotHeld() {
        long[] numbers = {MOST_LONG, LEAST_LONG, (1L << 60) + (1L << 37)};
        for (long v : numbers) {
            CHECKS.sameReal("133", ofOne(133, 2, 3, 0, v).real(), (float) v);
            CHECKS.sameReal("134", ofOne(134, 2, 4, 0, v).real(), (double) v);
            long[] one = {v};
            Code code = Code.one(4, Code.types(2), 4, Code.ab(133, 0, 2), Code.ab(137, 0, 0), 16);
            CHECKS.sameReal("137", run(code, 2, null, one).real(), (float) v);
            code = Code.one(3, Code.types(2), 4, Code.ab(134, 0, 2), Code.ab(140, 0, 0), 15);
            CHECKS.sameReal("140", run(code, 2, null, one).real(), (float) (double) v);
            code = Code.one(3, Code.types(2), 4, Code.ab(133, 0, 2), Code.ab(1, 1, 0), Code.ab(127, 0, 1), 15);
            CHECKS.sameReal("1 and 127", run(code, 2, null, one).real(), -(float) v);
            code = Code.one(4, Code.types(2), 4, Code.ab(134, 0, 2), Code.ab(4, 2, 0), Code.ab(128, 0, 2), 16);
            CHECKS.sameReal("4 and 128", run(code, 2, null, one).real(), -(double) v);
            code = Code.one(4, Code.types(2), 6, Code.ab(134, 0, 4), Code.ab(129, 2, 5), 16);
            CHECKS.same("but a LONG's half isn't an INT", code.machine().verify(0), 1);
            code = Code.one(3, Code.types(2), 5, Code.ab(133, 0, 3), 18 | 1 << 8 | 1 << 12,
                Code.ab(130, 1, 1), 168, Code.cd(0, 1), 15);
            CHECKS.sameReal("a FLOAT's product by 1 is held", run(code, 2, null, one).real(), 0.0);
            code = Code.one(4, Code.types(2), 6, Code.ab(134, 0, 4), 18 | 2 << 8 | 1 << 12,
                Code.ab(131, 2, 2), 174, Code.cd(0, 2), 16);
            CHECKS.sameReal("a DOUBLE's quotient by 1 is held", run(code, 2, null, one).real(), 0.0);
        }
    }

    /** "-0.0 is kept": passed, moved, cast, returned, by sums and products. */
    private static void minusZeroIsKept() {
        double[] one = {-0.0};
        CHECKS.sameReal("passed as a FLOAT", ofOne(1, 3, 3, -0.0, 0).real(), -0.0);
        CHECKS.sameReal("passed as a DOUBLE", ofOne(4, 4, 4, -0.0, 0).real(), -0.0);
        CHECKS.sameReal("137", ofOne(137, 3, 4, -0.0, 0).real(), -0.0);
        CHECKS.sameReal("140", ofOne(140, 4, 3, -0.0, 0).real(), -0.0);
        CHECKS.sameReal("127 of 0.0", ofOne(127, 3, 3, 0.0, 0).real(), -0.0);
        CHECKS.sameReal("128 of 0.0", ofOne(128, 4, 4, 0.0, 0).real(), -0.0);
        CHECKS.sameReal("127 of -0.0", ofOne(127, 3, 3, -0.0, 0).real(), 0.0);
        CHECKS.sameReal("128 of -0.0", ofOne(128, 4, 4, -0.0, 0).real(), 0.0);
        CHECKS.same("as a value", ofOne(128, 4, 4, 0.0, 0).value(), 0);
        for (int type = 3; type <= 4; type++) {
            int first = type == 3 ? 166 : 171;
            reals(first, type, -0.0, -0.0, -0.0, -0.0, 0.0, 0.0, 1, -1, 0.0);
            reals(first + 1, type, -0.0, 0.0, -0.0, 0.0, 0.0, 0.0, -0.0, -0.0, 0.0);
            reals(first + 2, type, -0.0, 1, -0.0, -0.0, -1, 0.0, 0.0, -1, -0.0);
            reals(first + 3, type, -0.0, 1, -0.0, 0.0, -1, -0.0, -0.0, -1, 0.0);
            int w = width(type);
            PairVm vm = Code.methods(2, 0)
                .method(type, Code.types(type), 2 + w, Code.ab(113, 0, w), 1, Code.names(2, w == 2 ? 3 : 0),
                    Code.aa(9 + w, 0), Code.aa(14 + w, 0))
                .method(type, Code.types(type), w, Code.aa(14 + w, 0)).machine();
            vm.passReal(type, -0.0);
            vm.call(0);
            vm.run(200);
            CHECKS.sameReal("as an argument and a RESULT", vm.real(), -0.0);
        }
        CHECKS.sameReal("there is none of INTs", ofOne(123, 1, 1, 0, 0).real(), 0.0);
        CHECKS.sameReal("an INT's 0 as a FLOAT", ofOne(130, 1, 3, 0, 0).real(), 0.0);
        Code code = Code.one(4, Code.types(4), 4, Code.ab(138, 0, 2), Code.ab(131, 0, 0), 16);
        CHECKS.sameReal("an INT of it has no sign", run(code, 4, one, null).real(), 0.0);
    }

    private static void minusZeroIsEqualToZero() {
        compare(45, 3, -0.0, 0.0, 0);
        compare(45, 3, 0.0, -0.0, 0);
        compare(47, 4, -0.0, 0.0, 0);
        compare(47, 4, 0.0, -0.0, 0);
    }

    private static void compare(int operation, int type, double c, double d, int due) {
        PairVm vm = ofTwo(operation, type, 1, new double[] {c, d}, null);
        CHECKS.same(operation + " of " + c + " and " + d, vm.value(), due);
    }

    private static void comparisonsAtTheBounds() {
        compare(45, 3, 1e-45, 0.0, 1);
        compare(45, 3, -1e-45, -0.0, -1);
        compare(45, 3, 1.0, 1.0 + 1e-10, 0);
        compare(45, 3, 1.0, FLOAT_BELOW_ONE, 1);
        compare(45, 3, GREATEST, -GREATEST, 1);
        compare(47, 4, Double.MIN_VALUE, 0.0, 1);
        compare(47, 4, 1.0, 1.0 + 1e-10, -1);
        compare(47, 4, DOUBLE_BELOW_ONE, 1.0, -1);
        compare(47, 4, -GREATEST, GREATEST, -1);
        compare(47, 4, GREATEST, GREATEST, 0);
        long[] longs = {LEAST_LONG, LEAST_LONG + 1, -(1L << 32), LEAST, -1, 0, 1, MOST, 1L << 32,
            MOST_LONG - 1, MOST_LONG};
        for (int i = 0; i < longs.length; i++) {
            for (int j = 0; j < longs.length; j++) {
                PairVm vm = ofTwo(49, 2, 1, null, new long[] {longs[i], longs[j]});
                CHECKS.same("49 of " + longs[i] + " and " + longs[j], vm.value(), Integer.compare(i, j));
            }
        }
    }

    /** "equal, unequal, less, not less, greater, not greater": also where a difference would wrap. */
    private static void branchesAtTheBounds() {
        int[] ints = {LEAST, LEAST + 1, -1, 0, 1, MOST - 1, MOST};
        for (int i = 0; i < ints.length; i++) {
            for (int j = 0; j < ints.length; j++) {
                for (int test = 0; test < 6; test++) {
                    PairVm vm = run(Code.one(1, Code.types(1, 1), 3, Code.ab(50 + test, 1, 2), 4, 18, 15,
                        18 | 1 << 12, 15), 1, null, new long[] {ints[i], ints[j]});
                    CHECKS.same((50 + test) + " of " + ints[i] + " and " + ints[j], vm.value(),
                        holds(test, Integer.compare(i, j)));
                }
            }
            for (int test = 0; test < 6; test++) {
                PairVm vm = run(Code.one(1, Code.types(1), 2, Code.aa(56 + test, 1), 4, 18, 15,
                    18 | 1 << 12, 15), 1, null, new long[] {ints[i]});
                CHECKS.same((56 + test) + " of " + ints[i], vm.value(), holds(test, Integer.compare(i, 3)));
            }
        }
    }

    private static int holds(int test, int order) {
        String[] orders = {"=", "<>", "<", "=>", ">", "<="};
        return orders[test].indexOf("<=>".charAt(order + 1)) >= 0 ? 1 : 0;
    }

    /** "A pair is read as a whole before another one is set": wherever the two lie. */
    private static void pairsAreReadAsAWhole() {
        long v = 0x0123456789abcdefL;
        for (int to = 0; to <= 5; to++) {
            pairMoved(to, v);
        }
        Code steps = Code.one(2, Code.types(2), 5, Code.ab(4, 2, 3), Code.ab(4, 1, 2), Code.ab(4, 0, 1),
            Code.ab(4, 1, 0), Code.ab(4, 2, 1), Code.ab(4, 3, 2), Code.aa(16, 3));
        CHECKS.same("down and up", run(steps, 2, null, new long[] {v}).value(), v);
        for (int to = 0; to <= 4; to++) {
            Code code = Code.one(2, Code.types(2, 2), 6, Code.aa(156, to), Code.cd(2, 4), Code.aa(16, to));
            CHECKS.same("a difference on its own", run(code, 2, null, new long[] {v, 7}).value(), v - 7);
            code = Code.one(4, Code.types(4, 4), 6, Code.aa(172, to), Code.cd(2, 4), Code.aa(16, to));
            CHECKS.sameReal("DOUBLEs", run(code, 4, new double[] {8, 0.5}, null).real(), 7.5);
        }
        for (int to = 2; to <= 5; to++) {
            Code code = Code.one(1, Code.types(2, 2), 6, Code.aa(49, to), Code.cd(2, 4), Code.aa(15, to));
            CHECKS.same("compared on its own", run(code, 2, null, new long[] {v, v - 1}).value(), 1);
        }
    }

    private static void pairMoved(int to, long v) {
        int registers = Math.max(5, to + 2);
        int from = registers - 2;
        Code code = Code.one(2, Code.types(2), registers, Code.ab(4, to, from), Code.aa(16, to));
        CHECKS.same("moved to " + to, run(code, 2, null, new long[] {v}).value(), v);
        code = Code.one(2, Code.types(2), registers, Code.ab(125, to, from), Code.aa(16, to));
        CHECKS.same("its negative", run(code, 2, null, new long[] {v}).value(), -v);
        code = Code.one(4, Code.types(4), registers, Code.ab(128, to, from), Code.aa(16, to));
        CHECKS.sameReal("a DOUBLE's", run(code, 4, new double[] {0.1}, null).real(), -0.1);
        code = Code.one(4, Code.types(2), registers, Code.ab(134, to, from), Code.aa(16, to));
        CHECKS.sameReal("as a DOUBLE", run(code, 2, null, new long[] {v}).real(), (double) v);
        code = Code.one(1, Code.types(2), registers, Code.ab(132, to, from), Code.aa(15, to));
        CHECKS.same("as an INT", run(code, 2, null, new long[] {v}).value(), 0x89abcdef);
        code = Code.one(2, Code.types(1), registers, Code.ab(129, to, registers - 1), Code.aa(16, to));
        CHECKS.same("an INT as a LONG", run(code, 1, null, new long[] {-9}).value(), -9);
    }

    /** "an INT or LONG; a FLOAT or DOUBLE cast (as Java's)", and real() the other way round. */
    private static void valueAndReal() {
        long[] wholes = {0, -1, MOST, LEAST};
        for (long v : wholes) {
            PairVm vm = ofOne(1, 1, 1, 0, v);
            CHECKS.same("an INT", vm.value(), v);
            CHECKS.sameReal("its real", vm.real(), v);
        }
        long[] longs = {0, -1, MOST_LONG, LEAST_LONG, (1L << 53) + 1, (1L << 32) + 1};
        double[] itsReals = {0, -1, 8 * GREATEST, -8 * GREATEST, 9007199254740992.0, 4294967297.0};
        for (int i = 0; i < longs.length; i++) {
            PairVm vm = ofOne(4, 2, 2, 0, longs[i]);
            CHECKS.same("a LONG", vm.value(), longs[i]);
            CHECKS.sameReal("its real", vm.real(), itsReals[i]);
        }
        double[] reals = {0.0, -0.0, 0.99, -0.99, -1.5, 1e-45, GREATEST, -GREATEST, 3e9, -3e9};
        for (double v : reals) {
            PairVm vm = ofOne(1, 3, 3, v, 0);
            CHECKS.sameReal("a FLOAT", vm.real(), (float) v);
            CHECKS.same("its value", vm.value(), (long) (float) v);
            vm = ofOne(4, 4, 4, v, 0);
            CHECKS.sameReal("a DOUBLE", vm.real(), v);
            CHECKS.same("its value", vm.value(), (long) v);
        }
        long[] beyond = {MOST_LONG, LEAST_LONG};
        for (long v : beyond) {
            CHECKS.same("the greatest as a FLOAT", ofOne(133, 2, 3, 0, v).value(), v);
            CHECKS.same("the greatest as a DOUBLE", ofOne(134, 2, 4, 0, v).value(), v);
        }
    }
}
