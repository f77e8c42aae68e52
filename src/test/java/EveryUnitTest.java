/**
 * Every unit there is, where an instruction begins and behind it: the verdict and the types are
 * those that Model tells, or that can be told in a line.
 */
public final class EveryUnitTest {
    private static final Checks CHECKS = new Checks();
    private static final int GOOD = PairVm.NONE;
    private static final int ALL = 65536;
    /** An object is used for 512 calls at the most, so for a few files. */
    private static final int CALLS = 512;

    private static PairVm used = new PairVm();
    private static int calls = 0;

    public static void main(String[] args) {
        everyFirstUnit();
        everyThirdUnit();
        everyNumberOfAField();
        everyNumberOfAMethod();
        everyWayToGo();
        everyWayToGoOf40();
        everyConstant();
        everyPairOfRegisters();
        CHECKS.end("EveryUnitTest");
    }

    /** An object with the file in it, which may be asked so many times. */
    private static PairVm machine(Code code, int questions) {
        int[] bytes = code.toBytes();
        calls += bytes.length + 1 + questions;
        if (calls > CALLS) {
            used = new PairVm();
            calls = bytes.length + 1 + questions;
        }
        Code.putAll(used, bytes);
        used.seal();
        return used;
    }

    private static void like(String what, Model model) {
        model.verify();
        Model.Made made = model.methods.get(0);
        int questions = made.formed ? 1 + made.units.length * made.registers : 2;
        PairVm vm = machine(model.toCode(), questions);
        CHECKS.same(what + ": verify", vm.verify(0), made.verdict);
        if (!made.formed) {
            CHECKS.same(what + ": no types", vm.type(0, 0, 0), PairVm.NONE);
            return;
        }
        int wrong = 0;
        for (int unit = 0; unit < made.units.length; unit++) {
            for (int r = 0; r < made.registers; r++) {
                wrong += vm.type(0, unit, r) == model.type(0, unit, r) ? 0 : 1;
            }
        }
        CHECKS.same(what + ": types that aren't as Model tells", wrong, 0);
    }

    /** Each operation with each A and B; behind it stand other units. */
    private static void everyFirstUnit() {
        int[][] types = {{1, 3, 2}, {1, 2, 4}, {1, 3, 2}, {4, 3}};
        int[] behind = {0x0606, 0x0101, 2, 0x0200};
        int[] registers = {10, 5, 4, 3};
        int[] returns = {1, 2, 3, 4};
        for (int t = 0; t < types.length; t++) {
            int last = returns[t] % 2 == 1 ? 15 : 16;
            for (int unit = 0; unit < ALL; unit++) {
                Model model = new Model(3);
                int[] code = {unit, behind[t], 0, last};
                model.methods.add(new Model.Made(returns[t], types[t], registers[t], code));
                like("unit " + unit + " in method " + t, model);
            }
        }
    }

    /** The registers that a 113 names: all sixteen, at all four places. */
    private static void everyThirdUnit() {
        int[][] types = {{2, 1}, {1, 2}, {4, 2}, {3, 4, 1}, {1, 3, 1}, {2}};
        int[][] own = {{2, 1}, {1, 2}, {4, 2}, {3, 4, 1}, {1, 3}, {2}};
        for (int t = 0; t < types.length; t++) {
            int words = Rows.words(types[t]);
            for (int unit = 0; unit < ALL; unit++) {
                Model model = new Model(0);
                int[] code = {Code.ab(113, 0, words), 1, unit, 14};
                model.methods.add(new Model.Made(0, own[t], Rows.words(own[t]) + 1, code));
                model.methods.add(new Model.Made(0, types[t], 10, new int[] {14}));
                like("names " + unit + " for parameters " + t, model);
            }
        }
    }

    /** "96 AA becomes the field N", which is there: N isn't below 0, and no more than there are. */
    private static void everyNumberOfAField() {
        for (int fields = 0; fields <= 4; fields++) {
            for (int n = 0; n < ALL; n++) {
                int due = n < fields ? GOOD : 0;
                PairVm vm = machine(Code.methods(1, fields).method(0, Code.types(1), 1, 96, n, 14), 1);
                CHECKS.same("field " + n + " of " + fields, vm.verify(0), due);
                vm = machine(Code.methods(1, fields).method(0, Code.types(1), 1, 103, n, 14), 1);
                CHECKS.same("field " + n + " of " + fields + " becomes", vm.verify(0), due);
            }
        }
    }

    /** "113: method N is called (N as a number from 0)". */
    private static void everyNumberOfAMethod() {
        for (int methods = 1; methods <= 4; methods++) {
            for (int n = 0; n < ALL; n++) {
                Code code = Code.methods(methods, 0).method(0, Code.types(), 0, 113, n, 0, 14);
                for (int m = 1; m < methods; m++) {
                    code.method(0, Code.types(), 0, 14);
                }
                PairVm vm = machine(code, 1);
                CHECKS.same("method " + n + " of " + methods, vm.verify(0), n < methods ? GOOD : 0);
            }
        }
    }

    /** "go on N units from here": to the beginning of an instruction, forwards, back, or here. */
    private static void everyWayToGo() {
        for (int operation = 50; operation <= 61; operation++) {
            for (int n = 0; n < ALL; n++) {
                // Begins: 0, 1, 3, 5, 7, 8; the branch is at 3, a RESULT of nothing nowhere.
                int target = 3 + (short) n;
                boolean begins = target == 0 || target == 1 || target == 3 || target == 5
                    || target == 7 || target == 8;
                PairVm vm = machine(Code.one(0, Code.types(1), 1, 0, 19, 0, operation, n, 19, 7, 0, 14),
                    1);
                CHECKS.same(operation + " by " + (short) n, vm.verify(0), begins ? GOOD : 3);
            }
        }
    }

    /** "40 go on AA (as eight bits with sign) units from here", from the first to the last unit. */
    private static void everyWayToGoOf40() {
        for (int at = 0; at < 40; at++) {
            for (int n = 0; n < 256; n++) {
                int[] code = new int[40];
                code[39] = 14;
                code[at] = Code.aa(40, n);
                int target = at + (byte) n;
                boolean right = target >= 0 && target < 40;
                PairVm vm = machine(Code.one(0, Code.types(), 0, code), 1);
                CHECKS.same("40 at " + at + " by " + (byte) n, vm.verify(0), right ? GOOD : at);
            }
        }
    }

    /** "A becomes the INT that B is as four bits with sign, 19 AA becomes the INT N, 22 .. LONG". */
    private static void everyConstant() {
        for (int n = 0; n < ALL; n++) {
            constant("19", Code.one(1, Code.types(), 1, 19, n, 15), (short) n);
            constant("22", Code.one(2, Code.types(), 2, 22, n, 16), (short) n);
        }
        for (int b = 0; b < 16; b++) {
            constant("18", Code.one(1, Code.types(), 1, Code.ab(18, 0, b), 15), b < 8 ? b : b - 16);
        }
    }

    private static void constant(String what, Code code, long due) {
        PairVm vm = machine(code, 3);
        vm.call(0);
        vm.run(2);
        CHECKS.same(what, vm.value(), due);
    }

    /** Each C and each D, of each type that an operation may use. */
    private static void everyPairOfRegisters() {
        // INT 0, FLOAT 1, LONG 2 and 3, in four registers; then FLOAT 0, DOUBLE 1 and 2, INT 3.
        int[][] operations = {{144, 49}, {155, 166}, {45, 47}, {171, 166}};
        int[][] types = {{1, 3, 2}, {1, 3, 2}, {3, 4, 1}, {3, 4, 1}};
        String[] rows = {"1234", "1234", "2561", "2561"};
        for (int t = 0; t < types.length; t++) {
            for (int operation : operations[t]) {
                for (int unit = 0; unit < ALL; unit++) {
                    oneUse(operation, types[t], rows[t], unit);
                }
            }
        }
    }

    private static void oneUse(int operation, int[] types, String row, int unit) {
        String asked = operation == 144 ? "1" : operation == 45 || operation == 166 ? "2"
            : operation == 49 || operation == 155 ? "3" : "5";
        int width = asked.compareTo("3") < 0 ? 1 : 2;
        int c = unit & 255;
        int d = unit >> 8;
        boolean formed = c + width <= 4 && d + width <= 4;
        boolean right = formed && row.startsWith(asked, c) && row.startsWith(asked, d);
        PairVm vm = machine(Code.one(0, types, 4, operation, unit, 14), 2);
        CHECKS.same(operation + " of " + c + " and " + d, vm.verify(0), right ? GOOD : 0);
        CHECKS.same("its form", vm.type(0, 0, 0) != PairVm.NONE, formed);
    }
}
