/** Promises 11, 12 and 15 to 17: run, state, calls, at and field. */
public final class RunTest {
    private static final Checks CHECKS = new Checks();
    private static final Class<IllegalArgumentException> ILL = IllegalArgumentException.class;
    private static final Class<IllegalStateException> STATE = IllegalStateException.class;

    public static void main(String[] args) {
        howManyInstructions();
        theBoundsOfN();
        itDoesNotRun();
        stopsByADivision();
        stopsByASeventhCall();
        sixCallsMayBeOpen();
        whereCallsAre();
        callsWithWords();
        resultsOfCalls();
        aResultNeedNotBeThere();
        fieldsStay();
        fieldsThereAre();
        registersOfItsOwn();
        CHECKS.end("RunTest");
    }

    private static PairVm counting() {
        // Adds 1 to field 0 again and again: four instructions a round.
        return Code.methods(1, 1).method(0, Code.types(), 2, 18 | 1 << 12 | 1 << 8,
            96, 0, 144, Code.cd(0, 1), 103, 0, Code.aa(40, -6)).machine();
    }

    private static void howManyInstructions() {
        PairVm vm = counting();
        vm.call(0);
        CHECKS.same("none", vm.run(0), 0);
        CHECKS.same("at", vm.at(0), 0);
        CHECKS.same("one", vm.run(1), 1);
        CHECKS.same("at", vm.at(0), 1);
        CHECKS.same("two", vm.run(2), 2);
        CHECKS.same("at", vm.at(0), 5);
        CHECKS.same("field", vm.field(0), 0);
        CHECKS.same("one", vm.run(1), 1);
        CHECKS.same("field", vm.field(0), 1);
        CHECKS.same("200", vm.run(200), 200);
        CHECKS.same("field", vm.field(0), 51);
        CHECKS.same("at", vm.at(0), 7);
        CHECKS.same("it runs", vm.state(), 1);
        vm = Code.one(0, Code.types(), 0, 0, 0, 14).machine();
        vm.call(0);
        CHECKS.same("up to the return", vm.run(200), 3);
        CHECKS.same("returned", vm.state(), 2);
        vm.call(0);
        CHECKS.same("up to it", vm.run(2), 2);
        CHECKS.same("it runs", vm.state(), 1);
        CHECKS.same("the return", vm.run(1), 1);
        CHECKS.same("returned", vm.state(), 2);
    }

    private static void theBoundsOfN() {
        PairVm vm = counting();
        int[] wrong = {-1, 201, Integer.MIN_VALUE, Integer.MAX_VALUE};
        for (int n : wrong) {
            CHECKS.thrown("run " + n + " of an idle one", ILL, () -> vm.run(n));
        }
        vm.call(0);
        for (int n : wrong) {
            CHECKS.thrown("run " + n, ILL, () -> vm.run(n));
        }
        CHECKS.same("nothing was done", vm.at(0), 0);
        CHECKS.same("it runs", vm.state(), 1);
        CHECKS.thrown("200", null, () -> vm.run(200));
    }

    private static void itDoesNotRun() {
        PairVm vm = counting();
        CHECKS.thrown("idle", STATE, () -> vm.run(1));
        CHECKS.thrown("idle, 0", STATE, () -> vm.run(0));
        CHECKS.same("idle", vm.state(), 0);
        CHECKS.same("at", vm.at(0), PairVm.NONE);
        CHECKS.same("calls", vm.calls(), 0);
        PairVm done = Code.one(1, Code.types(), 1, 18, 15).machine();
        done.call(0);
        CHECKS.same("run", done.run(200), 2);
        CHECKS.thrown("returned", STATE, () -> done.run(1));
        CHECKS.thrown("returned, 0", STATE, () -> done.run(0));
        CHECKS.same("at", done.at(0), PairVm.NONE);
        CHECKS.same("calls", done.calls(), 0);
        CHECKS.same("state", done.state(), 2);
    }

    private static void stopsByADivision() {
        int[] operations = {147, 148, 158, 159};
        for (int operation : operations) {
            boolean pairs = operation > 150;
            PairVm vm = Code.methods(1, 1).method(pairs ? 2 : 1, Code.types(pairs ? 2 : 1), 6,
                Code.aa(19, 0), 7, Code.aa(103, 0), 0, pairs ? Code.aa(22, 2) : Code.aa(19, 2), 50,
                Code.aa(operation, 2), Code.cd(2, pairs ? 4 : 5), Code.aa(pairs ? 16 : 15, 2))
                .machine();
            vm.pass(pairs ? 2 : 1, 0);
            vm.call(0);
            CHECKS.thrown(operation + " by 0", ArithmeticException.class, () -> vm.run(200));
            CHECKS.same("stopped", vm.state(), 3);
            CHECKS.same("what was done ahead stays", vm.field(0), 7);
            CHECKS.same("calls", vm.calls(), 0);
            CHECKS.same("at", vm.at(0), PairVm.NONE);
            CHECKS.same("value", vm.value(), 0);
            CHECKS.sameReal("real", vm.real(), 0.0);
            CHECKS.thrown("it doesn't run", STATE, () -> vm.run(0));
            CHECKS.thrown("n comes first", ILL, () -> vm.run(201));
            vm.pass(pairs ? 2 : 1, 8);
            vm.call(0);
            CHECKS.same("called again", vm.run(200), 5);
            CHECKS.same("its value", vm.value(), operation == 147 || operation == 158 ? 6 : 2);
            vm.pass(pairs ? 2 : 1, 0);
            vm.call(0);
            CHECKS.same("right up to it", vm.run(3), 3);
            CHECKS.same("it runs", vm.state(), 1);
            CHECKS.same("none is done", vm.run(0), 0);
            CHECKS.same("it runs still", vm.state(), 1);
            CHECKS.thrown("then by 0", ArithmeticException.class, () -> vm.run(1));
        }
        PairVm high = Code.one(2, Code.types(2), 4, 22, 100, 158, Code.cd(0, 2), 16).machine();
        high.pass(2, 1L << 32);
        high.call(0);
        CHECKS.same("a LONG whose low half is 0 isn't 0", high.run(200), 3);
    }

    private static void stopsByASeventhCall() {
        PairVm vm = Code.methods(1, 1).method(0, Code.types(), 2, 96, 0, 19 | 1 << 8, 1,
            144, Code.cd(0, 1), 103, 0, 113, 0, 0, 14).machine();
        vm.call(0);
        CHECKS.thrown("the seventh", UnsupportedOperationException.class, () -> vm.run(200));
        CHECKS.same("stopped", vm.state(), 3);
        CHECKS.same("six were open", vm.field(0), 6);
        CHECKS.same("calls", vm.calls(), 0);
        for (int k = 0; k < 6; k++) {
            CHECKS.same("at", vm.at(k), PairVm.NONE);
        }
        CHECKS.thrown("it doesn't run", STATE, () -> vm.run(1));
        vm.call(0);
        CHECKS.same("right up to it", vm.run(29), 29);
        CHECKS.same("six are open", vm.calls(), 6);
        CHECKS.same("it runs", vm.state(), 1);
        CHECKS.same("field", vm.field(0), 12);
        CHECKS.thrown("then the seventh", UnsupportedOperationException.class, () -> vm.run(1));
        CHECKS.same("stopped", vm.state(), 3);
    }

    /** f(n) is 1 if n is 0, else f(n - 1) + 1. */
    private static PairVm recursion() {
        return Code.one(1, Code.types(1), 2, Code.aa(56, 1), 11,
            Code.aa(19, 0), -1, Code.aa(144, 1), Code.cd(1, 0), Code.ab(113, 0, 1), 0, Code.names(1),
            Code.aa(10, 1), Code.aa(40, 3), Code.aa(19, 1), 0,
            Code.aa(19, 0), 1, Code.aa(144, 1), Code.cd(0, 1), Code.aa(15, 1)).machine();
    }

    private static void sixCallsMayBeOpen() {
        PairVm vm = recursion();
        CHECKS.same("fit", vm.verify(0), PairVm.NONE);
        for (int n = 0; n <= 5; n++) {
            vm.pass(1, n);
            vm.call(0);
            CHECKS.same("instructions", vm.run(200), 5 + n * 9);
            CHECKS.same("value of " + n, vm.value(), n + 1);
        }
        vm.pass(1, 6);
        vm.call(0);
        CHECKS.thrown("six", UnsupportedOperationException.class, () -> vm.run(200));
    }

    private static void whereCallsAre() {
        PairVm vm = recursion();
        vm.pass(1, 2);
        vm.call(0);
        CHECKS.same("calls", vm.calls(), 1);
        CHECKS.same("at 1", vm.at(1), PairVm.NONE);
        vm.run(3);
        CHECKS.same("before the call", vm.at(0), 6);
        vm.run(1);
        CHECKS.same("calls", vm.calls(), 2);
        CHECKS.same("the latest", vm.at(0), 0);
        CHECKS.same("the other one, at its result", vm.at(1), 9);
        CHECKS.same("no more", vm.at(2), PairVm.NONE);
        vm.run(6);
        CHECKS.same("calls", vm.calls(), 3);
        CHECKS.same("the latest", vm.at(0), 13);
        vm.run(2);
        CHECKS.same("calls", vm.calls(), 3);
        CHECKS.same("the latest, at its return", vm.at(0), 17);
        CHECKS.same("the second", vm.at(1), 9);
        CHECKS.same("the third", vm.at(2), 9);
        CHECKS.same("no more", vm.at(3), PairVm.NONE);
        CHECKS.same("the return", vm.run(1), 1);
        CHECKS.same("calls", vm.calls(), 2);
        CHECKS.same("back at its result", vm.at(0), 9);
        CHECKS.same("the other one", vm.at(1), 9);
        CHECKS.same("no more", vm.at(2), PairVm.NONE);
        CHECKS.same("at -1", vm.at(-1), PairVm.NONE);
        CHECKS.same("at the least", vm.at(Integer.MIN_VALUE), PairVm.NONE);
        CHECKS.same("at the greatest", vm.at(Integer.MAX_VALUE), PairVm.NONE);
    }

    /** Words go to the last registers, in order, pairs too. */
    private static void callsWithWords() {
        PairVm vm = Code.methods(2, 0)
            .method(2, Code.types(2, 1), 8, Code.aa(19, 0), 3, Code.ab(113, 0, 4), 1,
                Code.names(7, 5, 6, 0), Code.aa(11, 2), Code.aa(16, 2))
            .method(2, Code.types(1, 2, 1), 10, Code.ab(129, 0, 6), Code.ab(129, 2, 9),
                Code.aa(157, 4), Code.cd(7, 2), Code.aa(156, 0), Code.cd(4, 0), Code.aa(16, 0))
            .machine();
        CHECKS.same("fit", vm.verify(0), PairVm.NONE);
        CHECKS.same("fit", vm.verify(1), PairVm.NONE);
        vm.pass(2, 1L << 33);
        vm.pass(1, 5);
        vm.call(0);
        CHECKS.same("run", vm.run(200), 9);
        CHECKS.same("2 to the 33 by 3, less 5", vm.value(), 3 * (1L << 33) - 5);

        vm = Code.methods(2, 0)
            .method(4, Code.types(3, 4), 3, Code.ab(113, 0, 3), 1, Code.names(1, 2, 0),
                Code.aa(11, 1), Code.aa(16, 1))
            .method(4, Code.types(4, 3), 5, Code.ab(137, 0, 4), Code.aa(172, 0), Code.cd(0, 2),
                Code.aa(16, 0)).machine();
        vm.passReal(3, 7.5);
        vm.passReal(4, 0.25);
        vm.call(0);
        CHECKS.same("run", vm.run(200), 6);
        CHECKS.sameReal("7.5 less 0.25", vm.real(), 7.25);
    }

    private static void resultsOfCalls() {
        for (int type = 1; type <= 4; type++) {
            boolean pair = type == 2 || type == 4;
            int move = pair ? 11 : 10;
            int leave = pair ? 16 : 15;
            int width = pair ? 2 : 1;
            PairVm vm = Code.methods(2, 0)
                .method(type, Code.types(type), 10, Code.ab(113, 0, width), 1,
                    Code.names(10 - width, pair ? 9 : 0), Code.aa(move, 3), Code.aa(leave, 3))
                .method(type, Code.types(type), 5, Code.aa(leave, 5 - width)).machine();
            if (type <= 2) {
                vm.pass(type, -77);
            } else {
                vm.passReal(type, -77.25);
            }
            vm.call(0);
            CHECKS.same("run", vm.run(200), 4);
            CHECKS.sameReal("the result of " + type, vm.real(), type <= 2 ? -77.0 : -77.25);
        }
    }

    private static void aResultNeedNotBeThere() {
        PairVm vm = Code.methods(2, 0)
            .method(0, Code.types(), 1, 113, 1, 0, 14)
            .method(1, Code.types(), 1, 18 | 7 << 12, 15).machine();
        vm.call(0);
        CHECKS.same("run", vm.run(200), 4);
        CHECKS.same("returned", vm.state(), 2);
        CHECKS.same("nothing was returned", vm.value(), 0);
        CHECKS.sameReal("no real either", vm.real(), 0.0);
        vm.call(1);
        vm.run(200);
        CHECKS.same("the other one returns", vm.value(), 7);
    }

    private static void fieldsStay() {
        PairVm vm = counting();
        CHECKS.same("0 when read", vm.field(0), 0);
        vm.call(0);
        vm.run(8);
        CHECKS.same("after two rounds", vm.field(0), 2);
        vm.call(0);
        vm.run(8);
        CHECKS.same("from call to call", vm.field(0), 4);
        CHECKS.thrown("no such method", ILL, () -> vm.call(1));
        CHECKS.same("it stays", vm.field(0), 4);
        PairVm sum = Code.methods(1, 4).method(1, Code.types(1), 3, Code.aa(96, 0), 2,
            Code.aa(144, 1), Code.cd(0, 2), Code.aa(103, 1), 2, Code.aa(15, 0)).machine();
        sum.pass(1, Integer.MAX_VALUE);
        sum.call(0);
        sum.run(200);
        CHECKS.same("the field before", sum.value(), 0);
        sum.pass(1, 1);
        sum.call(0);
        sum.run(200);
        CHECKS.same("the field before", sum.value(), Integer.MAX_VALUE);
        CHECKS.same("the field", sum.field(2), Integer.MIN_VALUE);
        CHECKS.same("another one", sum.field(1), 0);
        CHECKS.same("another one", sum.field(3), 0);
    }

    private static void fieldsThereAre() {
        PairVm vm = Code.methods(1, 2).method(0, Code.types(1), 1, 103, 0, 103, 1, 14).machine();
        vm.pass(1, 6);
        vm.call(0);
        vm.run(200);
        CHECKS.same("field 0", vm.field(0), 6);
        CHECKS.same("field 1", vm.field(1), 6);
        int[] none = {-1, 2, 3, 4, Integer.MAX_VALUE, Integer.MIN_VALUE};
        for (int k : none) {
            CHECKS.same("field " + k, vm.field(k), 0);
        }
        Code.putAll(vm, 1, 1, 0, 0, 0, 1, 14, 0, 9);
        CHECKS.thrown("an ill file", ILL, vm::seal);
        CHECKS.same("they stay", vm.field(1), 6);
        Code.one(0, Code.types(), 0, 14).sealInto(vm);
        CHECKS.same("no field", vm.field(0), 0);
    }

    /** The called method sets its registers; those of the caller stay. */
    private static void registersOfItsOwn() {
        PairVm vm = Code.methods(2, 0)
            .method(1, Code.types(1), 2, 18 | 4 << 12, Code.ab(113, 0, 1), 1, Code.names(1),
                144, Code.cd(0, 1), 15)
            .method(0, Code.types(1), 3, 18, 18 | 1 << 8, 18 | 2 << 8, 14).machine();
        vm.pass(1, 30);
        vm.call(0);
        CHECKS.same("run", vm.run(200), 8);
        CHECKS.same("34", vm.value(), 34);
    }
}
