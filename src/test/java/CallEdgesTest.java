import java.util.Arrays;
import java.util.List;

/** Promises 8 to 10 at their bounds, a sentence of the document a test. */
public final class CallEdgesTest {
    private static final Checks CHECKS = new Checks();
    private static final Class<IllegalArgumentException> ILL = IllegalArgumentException.class;
    private static final Class<IllegalStateException> UNFIT = IllegalStateException.class;
    private static final double GREATEST = 1152921504606846976.0;

    public static void main(String[] args) {
        passThreeOfEachMix();
        passTakesTheLowest32Bits();
        passTakesAllOfALong();
        passRealMayBeBothBounds();
        passRealCastsToFloat();
        aRefusedPassPutsNothing();
        argumentsAreThoseOfTheParameters();
        methodsThereAre();
        argumentsAreGoneInAnyCase();
        argumentsStayOverFiles();
        whichExceptionComesFirst();
        someMethodIsNotFit();
        aCallTakesThePlaceOfWhatWasRun();
        argumentsLieInTheLastRegisters();
        CHECKS.end("CallEdgesTest");
    }

    private static boolean pass(PairVm vm, int type, int number) {
        return type <= 2 ? vm.pass(type, number) : vm.passReal(type, number);
    }

    private static PairVm returning(int type) {
        int words = type == 2 || type == 4 ? 2 : 1;
        return Code.one(type, Code.types(type), words, words == 2 ? 16 : 15).machine();
    }

    /** "false if there are three": of whatever types they are, and the fourth. */
    private static void passThreeOfEachMix() {
        for (int[] types : Rows.ofTypes()) {
            PairVm vm = Code.one(0, types, 6, 14).machine();
            for (int type : types) {
                CHECKS.same("one of up to three", pass(vm, type, 1), true);
            }
            for (int type = 1; type <= 4 && types.length == 3; type++) {
                CHECKS.same("a fourth", pass(vm, type, 1), false);
            }
            CHECKS.thrown("they suit", null, () -> vm.call(0));
            CHECKS.same("and are gone, so there is room", pass(vm, 1, 1), true);
        }
    }

    /** "1 INT, its lowest 32 bits". */
    private static void passTakesTheLowest32Bits() {
        long[] numbers = {Integer.MAX_VALUE, Integer.MAX_VALUE + 1L, Integer.MIN_VALUE,
            Integer.MIN_VALUE - 1L, (1L << 32) - 1, 1L << 32, (1L << 32) + 1, -(1L << 32),
            Long.MAX_VALUE, Long.MIN_VALUE, Long.MIN_VALUE + 1, 0x123456789abcdef0L};
        int[] due = {Integer.MAX_VALUE, Integer.MIN_VALUE, Integer.MIN_VALUE, Integer.MAX_VALUE, -1, 0,
            1, 0, -1, 0, 1, 0x9abcdef0};
        for (int i = 0; i < numbers.length; i++) {
            PairVm vm = returning(1);
            vm.pass(1, numbers[i]);
            vm.call(0);
            vm.run(1);
            CHECKS.same("the INT of " + numbers[i], vm.value(), due[i]);
            CHECKS.sameReal("its real", vm.real(), due[i]);
        }
    }

    private static void passTakesAllOfALong() {
        long[] numbers = {Long.MAX_VALUE, Long.MIN_VALUE, (1L << 32) - 1, 1L << 32, -1, 0};
        for (long v : numbers) {
            PairVm vm = returning(2);
            vm.pass(2, v);
            vm.call(0);
            vm.run(1);
            CHECKS.same("the LONG " + v, vm.value(), v);
        }
    }

    /** "if v isn't between -2 to the 60 and 2 to the 60 (both may be)". */
    private static void passRealMayBeBothBounds() {
        double[] inside = {GREATEST, -GREATEST, Math.nextDown(GREATEST), -Math.nextDown(GREATEST), 0.0,
            -0.0, Double.MIN_VALUE, -Double.MIN_VALUE};
        double[] outside = {Math.nextUp(GREATEST), -Math.nextUp(GREATEST), 2 * GREATEST,
            -2 * GREATEST, Double.MAX_VALUE, -Double.MAX_VALUE, Double.POSITIVE_INFINITY,
            Double.NEGATIVE_INFINITY, Double.NaN};
        for (int type = 3; type <= 4; type++) {
            for (double v : inside) {
                PairVm vm = returning(type);
                CHECKS.same("inside: " + v, vm.passReal(type, v), true);
                vm.call(0);
                vm.run(1);
                CHECKS.sameReal("it is put", vm.real(), type == 3 ? (float) v : v);
            }
            for (double v : outside) {
                PairVm vm = returning(type);
                CHECKS.same("outside: " + v, vm.passReal(type, v), false);
                CHECKS.thrown("it isn't put", ILL, () -> vm.call(0));
            }
        }
    }

    /** "3 FLOAT, cast": to the nearest one, to the even one of two, to 0 with its sign. */
    private static void passRealCastsToFloat() {
        double[] numbers = {16777216.0, 16777217.0, 16777218.0, 16777219.0, -16777217.0, 0.1, 1e-46,
            -1e-46, 1e-45, Math.nextDown(GREATEST), -Math.nextDown(GREATEST)};
        double[] due = {16777216.0, 16777216.0, 16777218.0, 16777220.0, -16777216.0,
            0.100000001490116119384765625, 0.0, -0.0, 1.401298464324817E-45, GREATEST, -GREATEST};
        for (int i = 0; i < numbers.length; i++) {
            PairVm vm = returning(3);
            vm.passReal(3, numbers[i]);
            vm.call(0);
            vm.run(1);
            CHECKS.sameReal("the FLOAT of " + numbers[i], vm.real(), due[i]);
        }
    }

    /** What is refused takes no place among the three. */
    private static void aRefusedPassPutsNothing() {
        PairVm vm = Code.one(1, Code.types(1, 4, 2), 5, Code.aa(15, 0)).machine();
        for (int i = 0; i < 3; i++) {
            vm.pass(3, 1);
            vm.pass(0, 1);
            vm.passReal(2, 1);
            vm.passReal(4, Double.NaN);
            vm.passReal(4, -Math.nextUp(GREATEST));
            CHECKS.same("put", i == 1 ? vm.passReal(4, 1.5) : vm.pass(1 + i / 2, 10 + i), true);
        }
        CHECKS.same("there are three", vm.pass(1, 9), false);
        vm.call(0);
        vm.run(1);
        CHECKS.same("the first of them", vm.value(), 10);
    }

    /** "the arguments aren't those of its parameters": each row against each. */
    private static void argumentsAreThoseOfTheParameters() {
        List<int[]> rows = Rows.ofTypes();
        for (int[] parameters : rows) {
            Code code = Code.one(0, parameters, 10, 14);
            PairVm vm = code.machine();
            int calls = 0;
            for (int[] arguments : rows) {
                calls += arguments.length + 1;
                if (calls > 450) {
                    vm = code.machine();
                    calls = 0;
                }
                PairVm used = vm;
                for (int type : arguments) {
                    pass(used, type, 1);
                }
                CHECKS.thrown(Arrays.toString(arguments) + " for " + Arrays.toString(parameters),
                    Arrays.equals(arguments, parameters) ? null : ILL, () -> used.call(0));
            }
        }
    }

    /** "there is no such method (or file)": 0 and the last one are there. */
    private static void methodsThereAre() {
        int[] others = {Integer.MIN_VALUE, -2, -1, 4, 5, 256, Integer.MAX_VALUE};
        PairVm none = new PairVm();
        for (int m = -1; m <= 4; m++) {
            int method = m;
            CHECKS.thrown("without a file", ILL, () -> none.call(method));
            CHECKS.same("without a file", none.verify(m), -2);
            CHECKS.same("without a file", none.type(m, 0, 0), PairVm.NONE);
        }
        for (int count = 1; count <= 4; count++) {
            Code code = Code.methods(count, 0);
            for (int m = 0; m < count; m++) {
                code.method(0, Code.types(), 1, 14);
            }
            PairVm vm = code.machine();
            for (int m = 0; m < 4; m++) {
                methodIsThere(vm, m, m < count);
            }
            for (int m : others) {
                methodIsThere(vm, m, false);
            }
        }
    }

    private static void methodIsThere(PairVm vm, int m, boolean there) {
        CHECKS.thrown("call " + m, there ? null : ILL, () -> vm.call(m));
        CHECKS.same("verify " + m, vm.verify(m), there ? PairVm.NONE : -2);
        CHECKS.same("type " + m, vm.type(m, 0, 0), there ? 0 : PairVm.NONE);
    }

    /** "there are none then, in any case": after each end that a call may have. */
    private static void argumentsAreGoneInAnyCase() {
        int[] methods = {0, 1, 2, 9, -1};
        for (int end = 0; end < methods.length; end++) {
            for (int given = 1; given <= 3; given++) {
                PairVm vm = Code.methods(3, 0).method(1, Code.types(1), 1, 15)
                    .method(0, Code.types(), 0, 14).method(0, Code.types(1, 1), 2, 14).machine();
                for (int i = 0; i < given; i++) {
                    vm.pass(1, i);
                }
                boolean suits = end == 0 && given == 1 || end == 2 && given == 2;
                int m = methods[end];
                CHECKS.thrown("call " + m + " with " + given, suits ? null : ILL, () -> vm.call(m));
                CHECKS.thrown("none are left", null, () -> vm.call(1));
                for (int i = 0; i < 3; i++) {
                    CHECKS.same("there is room for three", vm.pass(1, i), true);
                }
            }
        }
    }

    /** Nothing says that a file, ill or not, takes them. */
    private static void argumentsStayOverFiles() {
        Code code = Code.one(1, Code.types(1), 1, 15);
        PairVm vm = new PairVm();
        vm.pass(1, 41);
        CHECKS.thrown("an ill one", ILL, vm::load);
        code.sealInto(vm);
        CHECKS.thrown("an ill one", ILL, vm::seal);
        code.sealInto(vm);
        vm.call(0);
        vm.pass(1, 42);
        vm.run(1);
        CHECKS.same("the first", vm.value(), 41);
        vm.call(0);
        vm.run(1);
        CHECKS.same("passed while the machine ran", vm.value(), 42);
    }

    /** "IllegalArgumentException: .. Else IllegalStateException": both hold, so it is the first. */
    private static void whichExceptionComesFirst() {
        Code code = Code.methods(2, 0).method(0, Code.types(1), 1, 14).method(0, Code.types(), 1, 15);
        int[] none = {-1, 2, 4};
        PairVm vm = code.machine();
        for (int m : none) {
            CHECKS.thrown("no such method of an unfit file", ILL, () -> vm.call(m));
        }
        CHECKS.thrown("too few", ILL, () -> vm.call(0));
        vm.pass(2, 1);
        CHECKS.thrown("another one", ILL, () -> vm.call(0));
        vm.pass(1, 1);
        vm.pass(1, 1);
        CHECKS.thrown("too many", ILL, () -> vm.call(0));
        vm.pass(1, 1);
        CHECKS.thrown("just those", UNFIT, () -> vm.call(0));
        CHECKS.thrown("the unfit one itself", UNFIT, () -> vm.call(1));
        CHECKS.same("idle", vm.state(), 0);
    }

    /** "some method of the file isn't FIT": whichever it is, in form or in types, also uncalled. */
    private static void someMethodIsNotFit() {
        for (int count = 1; count <= 4; count++) {
            for (int bad = -1; bad < count; bad++) {
                for (int m = 0; m < count; m++) {
                    oneIsNotFit(count, bad, m);
                }
            }
        }
    }

    private static void oneIsNotFit(int count, int bad, int called) {
        int[][] unfit = {{200}, {0}, {Code.ab(123, 0, 0), 14}};
        for (int[] units : unfit) {
            Code code = Code.methods(count, 0);
            for (int m = 0; m < count; m++) {
                code.method(0, Code.types(), 1, m == bad ? units : Code.u(14));
            }
            PairVm vm = code.machine();
            CHECKS.thrown(bad + " of " + count + " isn't", bad < 0 ? null : UNFIT, () -> vm.call(called));
            CHECKS.same("the state", vm.state(), bad < 0 ? 1 : 0);
        }
    }

    /** "in place of what was run": from each state, it runs from unit 0 of one open call. */
    private static void aCallTakesThePlaceOfWhatWasRun() {
        int[] before = {-1, 0, 1, 2, 3};
        for (int first : before) {
            PairVm vm = Code.methods(4, 1)
                .method(0, Code.types(), 0, 113, 0, 0, 14)
                .method(2, Code.types(), 2, 22, 7, 16)
                .method(0, Code.types(), 1, 18, 147, Code.cd(0, 0), 14)
                .method(1, Code.types(1), 3, 18 | 1 << 12, 0, Code.ab(144, 1, 0), Code.cd(0, 2),
                    Code.aa(15, 1)).machine();
            if (first == 3) {
                vm.pass(1, 9);
            }
            if (first >= 0) {
                vm.call(first);
                String ended = Seen.run(vm, first == 0 ? 4 : first == 3 ? 2 : 200);
                CHECKS.same("it ended as it does: " + ended, vm.state(),
                    first == 1 ? 2 : first == 2 ? 3 : 1);
            }
            vm.pass(1, 30);
            vm.call(3);
            CHECKS.same("it runs", vm.state(), 1);
            CHECKS.same("one call", vm.calls(), 1);
            CHECKS.same("at its beginning", vm.at(0), 0);
            CHECKS.same("no other one", vm.at(1), PairVm.NONE);
            CHECKS.same("no value yet", vm.value(), 0);
            CHECKS.same("all of it", vm.run(200), 4);
            CHECKS.same("its value", vm.value(), 31);
        }
    }

    /** "its arguments in the last ones": for each row, with no register to spare and with all. */
    private static void argumentsLieInTheLastRegisters() {
        for (int[] types : Rows.ofTypes()) {
            int words = Rows.words(types);
            int[] sizes = {words, Math.min(10, words + 1), 10};
            for (int registers : sizes) {
                int register = registers - words;
                for (int p = 0; p < types.length; p++) {
                    boolean pair = types[p] == 2 || types[p] == 4;
                    PairVm vm = Code.one(types[p], types, registers, Code.aa(pair ? 16 : 15, register))
                        .machine();
                    for (int q = 0; q < types.length; q++) {
                        pass(vm, types[q], 50 + q);
                    }
                    vm.call(0);
                    vm.run(1);
                    CHECKS.sameReal("argument " + p + " of " + Arrays.toString(types), vm.real(), 50 + p);
                    register += pair ? 2 : 1;
                }
            }
        }
    }
}
