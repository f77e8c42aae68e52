/** Promises 11, 12 and 15 to 17 at their bounds, a sentence of the document a test. */
public final class RunEdgesTest {
    private static final Checks CHECKS = new Checks();
    private static final Class<IllegalArgumentException> ILL = IllegalArgumentException.class;
    private static final Class<IllegalStateException> STATE = IllegalStateException.class;
    private static final Class<ArithmeticException> DIVISION = ArithmeticException.class;
    private static final Class<UnsupportedOperationException> SEVENTH
        = UnsupportedOperationException.class;

    public static void main(String[] args) {
        upToN();
        theLastReturnIsCounted();
        callsAndReturnsAreCounted();
        whatStopsIsNotCounted();
        whatWasDoneAheadStays();
        boundsOfNInEachState();
        divisionsByZero();
        nearlyZeroDoesNotStop();
        quotientsOfRealsDoNotStop();
        sixCallsAndTheSeventh();
        theSeventhMayBeAnyMethod();
        returnsMakeRoom();
        whereEachOfSixCallsIs();
        statesFollowOneAnother();
        valuesOfOtherStates();
        fieldsThereAre();
        fieldsAreZeroWhenTheFileIsRead();
        fieldsStayFromCallToCall();
        the512thCall();
        CHECKS.end("RunEdgesTest");
    }

    /** Takes just so many instructions, more than 5; the return is the last of them. */
    private static PairVm taking(int instructions) {
        int[] tail = instructions % 2 == 1 ? Code.u(Code.aa(15, 1)) : Code.u(0, Code.aa(15, 1));
        int rounds = (instructions - 2 - tail.length) / 2;
        int[] loop = {18 | 15 << 12, Code.aa(19, 1), rounds, Code.aa(144, 1), Code.cd(1, 0),
            Code.aa(57, 1), -2 & 0xffff};
        return Code.one(1, Code.types(), 2, Code.join(loop, tail)).machine();
    }

    /** How many instructions that takes, counted one by one. */
    private static int counted(PairVm vm) {
        vm.call(0);
        int count = 0;
        for (int i = 0; i < 300 && vm.state() == 1; i++) {
            count += vm.run(1);
        }
        return count;
    }

    /** "Does up to n instructions: how many": the code ends before, at, and behind n. */
    private static void upToN() {
        for (int instructions = 190; instructions <= 210; instructions++) {
            int all = counted(taking(instructions));
            CHECKS.same("so many", all, instructions);
            for (int n = 0; n <= 200; n += n < 5 || n > 180 ? 1 : 25) {
                PairVm vm = taking(instructions);
                vm.call(0);
                CHECKS.same("up to " + n + " of " + all, vm.run(n), Math.min(n, all));
                CHECKS.same("the state", vm.state(), n >= all ? 2 : 1);
                CHECKS.same("the calls", vm.calls(), n >= all ? 0 : 1);
                int rest = all - Math.min(n, all);
                if (rest > 0) {
                    CHECKS.same("the rest of it", vm.run(200), Math.min(200, rest));
                }
            }
        }
    }

    /** "calls and returns, the last one too, among them". */
    private static void theLastReturnIsCounted() {
        int[] returns = {14, 15, 15, 16, 16};
        int[] types = {0, 1, 3, 2, 4};
        for (int i = 0; i < 5; i++) {
            int[] parameters = types[i] == 0 ? new int[0] : new int[] {types[i]};
            PairVm vm = Code.one(types[i], parameters, 2, Code.aa(returns[i], types[i] % 2)).machine();
            if (types[i] == 1 || types[i] == 2) {
                vm.pass(types[i], 1);
            } else if (types[i] > 2) {
                vm.passReal(types[i], 1);
            }
            vm.call(0);
            CHECKS.same("none yet", vm.run(0), 0);
            CHECKS.same("it runs", vm.state(), 1);
            CHECKS.same("the last return", vm.run(1), 1);
            CHECKS.same("it has returned", vm.state(), 2);
        }
    }

    private static void callsAndReturnsAreCounted() {
        PairVm vm = Code.methods(2, 0).method(1, Code.types(), 1, 113, 1, 0, 10, 15)
            .method(1, Code.types(), 1, 18 | 7 << 12, 15).machine();
        vm.call(0);
        int[] calls = {2, 2, 1, 1, 0};
        int[] at = {0, 1, 3, 4, PairVm.NONE};
        for (int i = 0; i < 5; i++) {
            CHECKS.same("instruction " + i, vm.run(1), 1);
            CHECKS.same("calls after " + i, vm.calls(), calls[i]);
            CHECKS.same("at after " + i, vm.at(0), at[i]);
        }
        CHECKS.same("value", vm.value(), 7);
        vm.call(0);
        CHECKS.same("all of them", vm.run(5), 5);
        CHECKS.same("returned", vm.state(), 2);
        vm.call(0);
        CHECKS.same("all but the last", vm.run(4), 4);
        CHECKS.same("it runs", vm.state(), 1);
    }

    /** "(The one that stops the machine isn't counted ..)": so many are done before it throws. */
    private static void whatStopsIsNotCounted() {
        PairVm vm = Code.one(0, Code.types(), 1, 18, 0, 147, 0, 14).machine();
        vm.call(0);
        CHECKS.same("up to it", vm.run(2), 2);
        CHECKS.same("it runs", vm.state(), 1);
        CHECKS.same("at it", vm.at(0), 2);
        CHECKS.same("none of none", vm.run(0), 0);
        CHECKS.thrown("it", DIVISION, () -> vm.run(1));
        PairVm deep = Code.one(0, Code.types(), 0, 113, 0, 0, 14).machine();
        deep.call(0);
        CHECKS.same("five calls", deep.run(5), 5);
        CHECKS.same("at the sixth", deep.at(0), 0);
        CHECKS.same("none of none", deep.run(0), 0);
        CHECKS.thrown("it", SEVENTH, () -> deep.run(1));
    }

    /** "(.. what was done ahead of it stays.)", and nothing behind it is done. */
    private static void whatWasDoneAheadStays() {
        for (int operation = 147; operation <= 148; operation++) {
            for (int n = 4; n <= 200; n += 28) {
                PairVm vm = Code.methods(1, 3).method(0, Code.types(1), 2, 18 | 6 << 12, 103, 0, 103, 2,
                    operation, Code.cd(0, 1), 103, 1, Code.aa(103, 1), 2, 14).machine();
                vm.pass(1, 0);
                vm.call(0);
                int count = n;
                CHECKS.thrown("it stops", DIVISION, () -> vm.run(count));
                CHECKS.same("the field ahead", vm.field(0), 6);
                CHECKS.same("the field behind", vm.field(1), 0);
                CHECKS.same("the field ahead isn't set anew", vm.field(2), 6);
            }
        }
        PairVm vm = Code.methods(1, 2).method(0, Code.types(), 2, 96, 0, 18 | 1 << 8 | 1 << 12,
            144, Code.cd(0, 1), 103, 0, 113, 0, 0, Code.aa(103, 1), 1, 14).machine();
        vm.call(0);
        CHECKS.thrown("it stops", SEVENTH, () -> vm.run(200));
        CHECKS.same("the field ahead, in each of six", vm.field(0), 6);
        CHECKS.same("the field behind", vm.field(1), 0);
    }

    /** "IllegalArgumentException: n isn't 0 .. 200. Else IllegalStateException". */
    private static void boundsOfNInEachState() {
        int[] wrong = {-1, 201, -200, 256, Integer.MIN_VALUE, Integer.MAX_VALUE};
        for (int state = 0; state < 4; state++) {
            PairVm vm = inState(state);
            CHECKS.same("the state", vm.state(), state);
            for (int n : wrong) {
                CHECKS.thrown("run " + n + " in state " + state, ILL, () -> vm.run(n));
            }
            for (int n = 0; n <= 200; n += 100) {
                int count = n;
                PairVm other = inState(state);
                CHECKS.thrown("run " + n + " in state " + state, state == 1 ? null : STATE,
                    () -> other.run(count));
            }
            CHECKS.same("it stays", vm.state(), state);
        }
        PairVm none = new PairVm();
        CHECKS.thrown("-1 without a file", ILL, () -> none.run(-1));
        CHECKS.thrown("0 without a file", STATE, () -> none.run(0));
    }

    private static PairVm inState(int state) {
        PairVm vm = Code.methods(3, 0).method(0, Code.types(), 0, 40)
            .method(1, Code.types(), 1, 18 | 7 << 12, 15)
            .method(0, Code.types(), 1, 18, 147, 0, 14).machine();
        if (state > 0) {
            vm.call(state - 1);
        }
        if (state > 1) {
            Seen.run(vm, 200);
        }
        return vm;
    }

    /** "it stops by a division by 0": of INTs or LONGs, quotient and rest, whatever is divided. */
    private static void divisionsByZero() {
        long[] numbers = {0, 1, -1, Integer.MIN_VALUE, Integer.MAX_VALUE, Long.MIN_VALUE,
            Long.MAX_VALUE};
        for (long v : numbers) {
            for (int operation : new int[] {147, 148}) {
                stops(Code.one(1, Code.types(1, 1), 3, operation, Code.cd(1, 2), 15), 1, v);
            }
            for (int operation : new int[] {158, 159}) {
                stops(Code.one(2, Code.types(2, 2), 6, operation, Code.cd(2, 4), 16), 2, v);
            }
        }
    }

    private static void stops(Code code, int type, long v) {
        PairVm vm = code.machine();
        vm.pass(type, v);
        vm.pass(type, 0);
        vm.call(0);
        CHECKS.thrown(v + " by 0", DIVISION, () -> vm.run(1));
        CHECKS.same("stopped", vm.state(), 3);
        CHECKS.thrown("it doesn't run", STATE, () -> vm.run(1));
    }

    /** LONGs of which one half is 0 aren't 0; nor are 1 and -1. */
    private static void nearlyZeroDoesNotStop() {
        long[] numbers = {1, -1, 1L << 32, 1L << 31, 0xffffffffL, Long.MIN_VALUE, -(1L << 32)};
        for (long d : numbers) {
            for (int operation : new int[] {158, 159}) {
                PairVm vm = Code.one(2, Code.types(2, 2), 6, operation, Code.cd(2, 4), 16).machine();
                vm.pass(2, Long.MIN_VALUE);
                vm.pass(2, d);
                vm.call(0);
                CHECKS.same("by " + d, vm.run(200), 2);
                CHECKS.same("it", vm.value(),
                    operation == 158 ? Long.MIN_VALUE / d : Long.MIN_VALUE % d);
            }
        }
    }

    private static void quotientsOfRealsDoNotStop() {
        double[] zeros = {0.0, -0.0};
        double[] numbers = {0.0, -0.0, 1.0, -1.0};
        for (double d : zeros) {
            for (double c : numbers) {
                PairVm vm = Code.one(3, Code.types(3, 3), 3, 169, Code.cd(1, 2), 15).machine();
                vm.passReal(3, c);
                vm.passReal(3, d);
                vm.call(0);
                CHECKS.same("FLOATs", vm.run(200), 2);
                CHECKS.sameReal(c + " by " + d, vm.real(), 0.0);
                vm = Code.one(4, Code.types(4, 4), 6, 174, Code.cd(2, 4), 16).machine();
                vm.passReal(4, c);
                vm.passReal(4, d);
                vm.call(0);
                CHECKS.same("DOUBLEs", vm.run(200), 2);
                CHECKS.sameReal(c + " by " + d, vm.real(), 0.0);
            }
        }
    }

    /** Method 0 calls itself as many times as field 0 says; the field is told by method 1. */
    private static PairVm nested(int deeper) {
        PairVm vm = Code.methods(2, 2)
            .method(0, Code.types(), 3, Code.aa(96, 0), 0, Code.aa(56, 0), 11, Code.aa(19, 1), -1 & 0xffff,
                Code.aa(144, 0), Code.cd(0, 1), Code.aa(103, 0), 0, 113, 0, 0, 14)
            .method(0, Code.types(1), 1, 103, 0, 14).machine();
        vm.pass(1, deeper);
        vm.call(1);
        CHECKS.same("the field", vm.run(200), 2);
        vm.call(0);
        return vm;
    }

    /** "at most six calls are open": with the first one five more may be, and no sixth more. */
    private static void sixCallsAndTheSeventh() {
        for (int deeper = 0; deeper <= 8; deeper++) {
            PairVm vm = nested(deeper);
            CHECKS.same("fit", vm.verify(0), PairVm.NONE);
            int most = 0;
            Class<?> thrown = null;
            for (int i = 0; i < 100 && vm.state() == 1; i++) {
                most = Math.max(most, vm.calls());
                try {
                    vm.run(1);
                } catch (UnsupportedOperationException e) {
                    thrown = e.getClass();
                }
            }
            CHECKS.same("open with " + deeper + " more", most, Math.min(6, deeper + 1));
            CHECKS.same("stopped with " + deeper + " more", vm.state(), deeper > 5 ? 3 : 2);
            CHECKS.same("thrown " + thrown, thrown == SEVENTH, deeper > 5);
            CHECKS.same("the field", vm.field(0), Math.max(0, deeper - 6));
        }
    }

    /** Also one without parameters and with, that returns something, and a chain of others. */
    private static void theSeventhMayBeAnyMethod() {
        for (int last = 1; last <= 3; last++) {
            PairVm vm = Code.methods(4, 1)
                .method(0, Code.types(), 6, 18, Code.aa(96, 1), 0, 18 | 2 << 8 | 1 << 12,
                    Code.aa(144, 1), Code.cd(1, 2), Code.aa(103, 1), 0, Code.aa(19, 2), 6,
                    Code.ab(50, 1, 2), 6, 113, 0, 0, Code.aa(40, 4),
                    Code.ab(113, 0, last == 3 ? 1 : 0), last, 0, 14)
                .method(0, Code.types(), 0, 14).method(2, Code.types(), 2, 22, 1, 16)
                .method(0, Code.types(1), 1, 14).machine();
            CHECKS.same("fit", vm.verify(0), PairVm.NONE);
            vm.call(0);
            CHECKS.thrown("method " + last + " as the seventh", SEVENTH, () -> vm.run(200));
            CHECKS.same("stopped", vm.state(), 3);
            CHECKS.same("six were open", vm.field(0), 6);
        }
    }

    /** Calls that have returned aren't open: forty of them one after another are fine. */
    private static void returnsMakeRoom() {
        PairVm vm = Code.methods(2, 0)
            .method(0, Code.types(1), 3, 18 | 15 << 12, 113, 1, 0, Code.aa(144, 2), Code.cd(2, 0),
                Code.aa(57, 2), -5 & 0xffff, 14)
            .method(0, Code.types(), 0, 14).machine();
        CHECKS.same("fit", vm.verify(0), PairVm.NONE);
        vm.pass(1, 40);
        vm.call(0);
        CHECKS.same("forty calls", vm.run(200), 2 + 40 * 4);
        CHECKS.same("returned", vm.state(), 2);
    }

    /** "0 the latest one; of others the one behind their 113, perhaps a RESULT". */
    private static void whereEachOfSixCallsIs() {
        for (int open = 1; open <= 6; open++) {
            PairVm vm = Code.methods(1, 0).method(1, Code.types(), 1, 0, 113, 0, 0, 10, 15).machine();
            vm.call(0);
            vm.run(2 * (open - 1));
            CHECKS.same("calls", vm.calls(), open);
            CHECKS.same("the latest", vm.at(0), 0);
            for (int k = 1; k < open; k++) {
                CHECKS.same("call " + k + " of " + open, vm.at(k), 4);
            }
            for (int k = open; k <= 7; k++) {
                CHECKS.same("call " + k + " of " + open, vm.at(k), PairVm.NONE);
            }
            CHECKS.same("-1", vm.at(-1), PairVm.NONE);
            CHECKS.same("the least", vm.at(Integer.MIN_VALUE), PairVm.NONE);
            CHECKS.same("the greatest", vm.at(Integer.MAX_VALUE), PairVm.NONE);
            vm.run(1);
            CHECKS.same("the latest, one further", vm.at(0), 1);
        }
        PairVm last = new PairVm();
        int[] code = new int[40];
        code[39] = 14;
        Code.one(0, Code.types(), 0, code).sealInto(last);
        last.call(0);
        last.run(39);
        CHECKS.same("the last unit there may be", last.at(0), 39);
    }

    /** "0 .. idle, 1 it runs, 2 the method that was called has returned, 3 it stopped". */
    private static void statesFollowOneAnother() {
        Code code = Code.methods(1, 0).method(1, Code.types(1), 2, 18 | 6 << 12, 147, Code.cd(0, 1), 15);
        PairVm vm = new PairVm();
        CHECKS.same("new", vm.state(), 0);
        code.sealInto(vm);
        CHECKS.same("read", vm.state(), 0);
        for (int i = 0; i < 2; i++) {
            vm.pass(1, 0);
            vm.call(0);
            CHECKS.same("called", vm.state(), 1);
            CHECKS.thrown("by 0", DIVISION, () -> vm.run(200));
            CHECKS.same("stopped", vm.state(), 3);
            vm.pass(1, 2);
            vm.call(0);
            CHECKS.same("called again", vm.state(), 1);
            CHECKS.same("run", vm.run(200), 3);
            CHECKS.same("returned", vm.state(), 2);
            CHECKS.same("value", vm.value(), 3);
            vm.pass(1, 3);
            vm.call(0);
            vm.run(1);
            CHECKS.same("it runs", vm.state(), 1);
            code.sealInto(vm);
            CHECKS.same("read again", vm.state(), 0);
        }
        for (int state = 0; state < 4; state++) {
            PairVm other = inState(state);
            code.sealInto(other);
            CHECKS.same("read in state " + state, other.state(), 0);
            CHECKS.same("no call", other.calls(), 0);
            CHECKS.same("nowhere", other.at(0), PairVm.NONE);
            CHECKS.same("no value", other.value(), 0);
            CHECKS.thrown("it doesn't run", STATE, () -> other.run(1));
        }
    }

    /** "0 if it returned nothing, or state() isn't 2". */
    private static void valuesOfOtherStates() {
        PairVm vm = Code.methods(3, 0)
            .method(4, Code.types(4), 4, 113, 1, 0, 10, Code.aa(16, 2))
            .method(1, Code.types(), 1, 18 | 7 << 12, 15)
            .method(0, Code.types(), 1, 113, 1, 0, 14).machine();
        vm.passReal(4, 5.5);
        vm.call(0);
        for (int i = 0; i < 4; i++) {
            CHECKS.same("no value while it runs", vm.value(), 0);
            CHECKS.sameReal("nor a real", vm.real(), 0.0);
            vm.run(1);
        }
        vm.run(1);
        CHECKS.same("its value", vm.value(), 5);
        CHECKS.sameReal("its real", vm.real(), 5.5);
        vm.call(2);
        CHECKS.same("none of a method that has just been called", vm.value(), 0);
        CHECKS.sameReal("nor a real", vm.real(), 0.0);
        vm.run(200);
        CHECKS.same("returned", vm.state(), 2);
        CHECKS.same("nothing, though one that it called did", vm.value(), 0);
        CHECKS.sameReal("nor a real", vm.real(), 0.0);
        vm = Code.methods(3, 0)
            .method(1, Code.types(), 1, 113, 1, 0, 10, 18, 147, 0, 15)
            .method(1, Code.types(), 1, 18 | 7 << 12, 15)
            .method(3, Code.types(), 1, 18 | 7 << 12, Code.ab(130, 0, 0), 113, 2, 0, 15).machine();
        for (int m = 0; m <= 2; m += 2) {
            vm.call(m);
            Seen.run(vm, 200);
            CHECKS.same("stopped", vm.state(), 3);
            CHECKS.same("no value, though a call had returned", vm.value(), 0);
            CHECKS.sameReal("nor a real", vm.real(), 0.0);
        }
    }

    /** "A field; 0 if there is none, or no file." */
    private static void fieldsThereAre() {
        for (int fields = 0; fields <= 4; fields++) {
            int[] code = new int[2 * fields + 1];
            for (int k = 0; k < fields; k++) {
                code[2 * k] = 103;
                code[2 * k + 1] = k;
            }
            code[2 * fields] = 14;
            PairVm vm = Code.methods(1, fields).method(0, Code.types(1), 1, code).machine();
            vm.pass(1, 9);
            vm.call(0);
            vm.run(200);
            for (int k = -1; k <= 6; k++) {
                CHECKS.same("field " + k + " of " + fields, vm.field(k), k >= 0 && k < fields ? 9 : 0);
            }
            CHECKS.same("the least", vm.field(Integer.MIN_VALUE), 0);
            CHECKS.same("the greatest", vm.field(Integer.MAX_VALUE), 0);
        }
        PairVm none = new PairVm();
        for (int k = -1; k <= 4; k++) {
            CHECKS.same("field " + k + " without a file", none.field(k), 0);
        }
    }

    /** "0 when the file is read": also when the same file is read once more. */
    private static void fieldsAreZeroWhenTheFileIsRead() {
        Code code = Code.methods(1, 4).method(1, Code.types(1), 2, Code.aa(96, 0), 3, Code.aa(103, 1), 3,
            Code.aa(103, 1), 0, 15);
        PairVm vm = code.machine();
        for (int i = 1; i <= 4; i++) {
            vm.pass(1, i);
            vm.call(0);
            vm.run(200);
            CHECKS.same("0 before", vm.value(), 0);
            CHECKS.same("set", vm.field(3), i);
            CHECKS.same("set, too", vm.field(0), i);
            code.sealInto(vm);
            for (int k = 0; k < 4; k++) {
                CHECKS.same("field " + k + " read again", vm.field(k), 0);
            }
        }
    }

    /** "stay from call to call": also over one that returned, stopped, or was left. */
    private static void fieldsStayFromCallToCall() {
        int[] numbers = {Integer.MAX_VALUE, Integer.MIN_VALUE, -1};
        for (int v : numbers) {
            PairVm vm = Code.methods(2, 2).method(1, Code.types(1), 2, Code.aa(103, 1), 1,
                Code.aa(147, 0), Code.cd(1, 1), 15).method(1, Code.types(), 1, 96, 1, 15).machine();
            vm.pass(1, v);
            vm.call(0);
            vm.run(200);
            CHECKS.same("after its return", vm.field(1), v);
            vm.call(1);
            vm.run(200);
            CHECKS.same("another method has it", vm.value(), v);
            vm.pass(1, 0);
            vm.call(0);
            CHECKS.thrown("by 0", DIVISION, () -> vm.run(200));
            CHECKS.same("set ahead of the stop", vm.field(1), 0);
            vm.pass(1, v);
            vm.call(0);
            vm.run(1);
            CHECKS.thrown("no such method", ILL, () -> vm.call(2));
            vm.call(1);
            vm.run(200);
            CHECKS.same("left by another call", vm.value(), v);
            CHECKS.same("field 0", vm.field(0), 0);
        }
    }

    /** "An object is used for at most 512 calls": the 512th is answered as the first one. */
    private static void the512thCall() {
        Code code = Code.methods(1, 1).method(0, Code.types(), 2, 96, 0, 18 | 1 << 8 | 1 << 12, 144,
            Code.cd(0, 1), 103, 0, 14);
        PairVm vm = code.machine();
        int calls = code.toBytes().length + 1;
        int times = 0;
        while (calls + 2 <= 511) {
            vm.call(0);
            CHECKS.same("run", vm.run(200), 5);
            calls += 2;
            times++;
        }
        while (calls < 511) {
            CHECKS.same("a field", vm.field(0), times);
            calls++;
        }
        CHECKS.same("call 512", vm.field(0), times);
    }
}
