/**
 * Calls made by lot in any state, with any arguments: nothing is thrown but what the document
 * tells of that call, where it tells it.
 */
public final class AnyCallsTest {
    private static final Checks CHECKS = new Checks();
    private static final int[] NUMBERS = {0, 1, 2, 3, 4, 5, 9, 10, 39, 40, 41, 199, 200, 201, 255, 256,
        -1, -2, Integer.MAX_VALUE, Integer.MIN_VALUE, Integer.MAX_VALUE - 1, 1 << 30, -(1 << 30)};
    private static final double[] REALS = {0.0, -0.0, 1.5, 1e300, -1e300, Double.NaN,
        Double.POSITIVE_INFINITY, Double.NEGATIVE_INFINITY, Double.MIN_VALUE, 1e18};

    private static long seed = 7L;
    /** No fewer than the object has been asked; a round that puts no file takes twelve at most. */
    private static int calls = 0;

    public static void main(String[] args) {
        for (int i = 0; i < 10000; i++) {
            oneObject();
        }
        CHECKS.end("AnyCallsTest");
    }

    private static int lot(int n) {
        seed = seed * 6364136223846793005L + 1442695040888963407L;
        return (int) ((seed >>> 33) % n);
    }

    private static int number() {
        return lot(3) == 0 ? NUMBERS[lot(NUMBERS.length)] : lot(12);
    }

    private static void oneObject() {
        PairVm vm = new PairVm();
        int[] file = file();
        calls = 0;
        for (int i = 0; i < 35 && calls + 12 + file.length <= 512; i++) {
            calls += 12;
            oneCall(vm, file);
        }
    }

    /** Some file whose first method often is fit, with a byte or two changed now and then. */
    private static int[] file() {
        int[] rest = Code.methods(2, 2)
            .method(1, Code.types(1), 4, Code.aa(103, 3), 0, Code.ab(113, 0, 1), lot(2), Code.names(3),
                Code.aa(10, 0), 18 | 1 << 8, 147 + lot(2) | 2 << 8, Code.cd(0, 3), Code.aa(15, 2))
            .method(1, Code.types(1), 2, Code.ab(123, 0, 1), 15).toBytes();
        for (int i = lot(5); i > 2; i--) {
            rest[lot(rest.length)] = lot(256);
        }
        return rest;
    }

    private static void oneCall(PairVm vm, int[] file) {
        int[] n = {number(), number(), number()};
        int state = vm.state();
        switch (lot(14)) {
            case 0: vm.put(n[0]); break;
            case 1: may("seal", vm::seal, IllegalArgumentException.class); break;
            case 2:
                calls += file.length;
                Code.putAll(vm, file);
                may("seal", vm::seal, IllegalArgumentException.class);
                break;
            case 3: may("load", vm::load, IllegalArgumentException.class); break;
            case 4: may("verify", () -> vm.verify(n[0])); break;
            case 5: may("type", () -> vm.type(n[0], n[1], n[2])); break;
            case 6: may("pass", () -> vm.pass(n[0], n[1])); break;
            case 7: may("passReal", () -> vm.passReal(n[0], REALS[lot(REALS.length)])); break;
            case 8: may("call", () -> vm.call(n[0]), IllegalArgumentException.class,
                IllegalStateException.class); break;
            case 9: case 10: run(vm, n[0], state); break;
            case 11: vm.pass(1, n[0]);
                may("call", () -> vm.call(0), IllegalArgumentException.class,
                    IllegalStateException.class); break;
            case 12: may("at", () -> vm.at(n[0])); break;
            default: may("field", () -> vm.field(n[0])); break;
        }
        may("the rest", () -> {
            vm.place();
            vm.value();
            vm.real();
            CHECKS.same("calls", vm.calls() > 0, vm.state() == 1);
            CHECKS.same("at", vm.at(0) >= 0, vm.state() == 1);
        });
    }

    private static void run(PairVm vm, int n, int state) {
        if (n < 0 || n > 200) {
            CHECKS.thrown("run " + n, IllegalArgumentException.class, () -> vm.run(n));
            CHECKS.same("the state stays", vm.state(), state);
        } else if (state != 1) {
            CHECKS.thrown("run " + n, IllegalStateException.class, () -> vm.run(n));
            CHECKS.same("the state stays", vm.state(), state);
        } else {
            may("run", () -> vm.run(n), ArithmeticException.class, UnsupportedOperationException.class);
        }
    }

    private static void may(String what, Checks.Action action, Class<?>... allowed) {
        try {
            action.act();
        } catch (RuntimeException e) {
            boolean isAllowed = false;
            for (Class<?> one : allowed) {
                isAllowed = isAllowed || e.getClass() == one;
            }
            CHECKS.same(what + " threw " + e, isAllowed, true);
        }
    }
}
