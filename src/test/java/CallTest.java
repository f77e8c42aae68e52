/** Promises 8 to 10: pass, passReal and call. */
public final class CallTest {
    private static final Checks CHECKS = new Checks();
    private static final Class<IllegalArgumentException> ILL = IllegalArgumentException.class;
    private static final Class<IllegalStateException> UNFIT = IllegalStateException.class;
    private static final double GREATEST = 1152921504606846976.0;

    public static void main(String[] args) {
        passTakesTwoTypes();
        passRealTakesTwoTypes();
        passRealHasBounds();
        threeArguments();
        numbersThatArePassed();
        argumentsAreThoseOfTheParameters();
        argumentsAreGone();
        noSuchMethod();
        notFit();
        inPlaceOfWhatWasRun();
        argumentsInTheLastRegisters();
        CHECKS.end("CallTest");
    }

    /** Gives back its argument of a type. */
    private static PairVm same(int type) {
        int words = type == 2 || type == 4 ? 2 : 1;
        return Code.one(type, Code.types(type), words, words == 2 ? 16 : 15).machine();
    }

    private static void passTakesTwoTypes() {
        for (int type = -2; type <= 7; type++) {
            CHECKS.same("pass as " + type, new PairVm().pass(type, 5), type == 1 || type == 2);
            CHECKS.same("passReal as " + type, new PairVm().passReal(type, 5),
                type == 3 || type == 4);
        }
        CHECKS.same("the greatest type", new PairVm().pass(Integer.MAX_VALUE, 5), false);
        CHECKS.same("the least type", new PairVm().passReal(Integer.MIN_VALUE, 5), false);
        CHECKS.same("257", new PairVm().pass(257, 5), false);
    }

    private static void passRealTakesTwoTypes() {
        PairVm vm = Code.one(0, Code.types(1), 1, 14).machine();
        CHECKS.same("as 3 by pass", vm.pass(3, 1), false);
        CHECKS.same("as 4 by pass", vm.pass(4, 1), false);
        CHECKS.same("as 1 by passReal", vm.passReal(1, 1), false);
        CHECKS.same("as 2 by passReal", vm.passReal(2, 1), false);
        CHECKS.same("as 1", vm.pass(1, 1), true);
        vm.call(0);
        CHECKS.same("only the one was put", vm.state(), 1);
    }

    private static void passRealHasBounds() {
        double above = GREATEST + 256;
        for (int type = 3; type <= 4; type++) {
            PairVm vm = new PairVm();
            CHECKS.same("above", vm.passReal(type, above), false);
            CHECKS.same("below", vm.passReal(type, -above), false);
            CHECKS.same("infinite", vm.passReal(type, Double.POSITIVE_INFINITY), false);
            CHECKS.same("below all", vm.passReal(type, Double.NEGATIVE_INFINITY), false);
            CHECKS.same("no number", vm.passReal(type, Double.NaN), false);
            CHECKS.same("the greatest", vm.passReal(type, GREATEST), true);
            CHECKS.same("the least", vm.passReal(type, -GREATEST), true);
            CHECKS.same("the smallest", vm.passReal(type, Double.MIN_VALUE), true);
            CHECKS.same("a fourth one", vm.passReal(type, 0), false);
        }
    }

    private static void threeArguments() {
        PairVm vm = new PairVm();
        CHECKS.same("one", vm.pass(1, 1), true);
        CHECKS.same("no type", vm.pass(0, 1), false);
        CHECKS.same("two", vm.passReal(4, 1), true);
        CHECKS.same("three", vm.pass(2, 1), true);
        CHECKS.same("a fourth INT", vm.pass(1, 1), false);
        CHECKS.same("a fourth LONG", vm.pass(2, 1), false);
        CHECKS.same("a fourth FLOAT", vm.passReal(3, 1), false);
        CHECKS.same("a fourth DOUBLE", vm.passReal(4, 1), false);
        CHECKS.thrown("no method", ILL, () -> vm.call(0));
        CHECKS.same("one again", vm.pass(1, 1), true);
    }

    private static void numbersThatArePassed() {
        long[] longs = {0, 1, -1, 1L << 31, (1L << 32) + 7, -(1L << 31) - 1, Long.MAX_VALUE,
            Long.MIN_VALUE};
        for (long v : longs) {
            PairVm vm = same(1);
            vm.pass(1, v);
            vm.call(0);
            vm.run(1);
            CHECKS.same("an INT of " + v, vm.value(), (int) v);
            vm = same(2);
            vm.pass(2, v);
            vm.call(0);
            vm.run(1);
            CHECKS.same("a LONG of " + v, vm.value(), v);
        }
        double[] reals = {0.0, -0.0, 0.1, -1e-300, GREATEST, -GREATEST, 16777217, Double.MIN_VALUE};
        for (double v : reals) {
            PairVm vm = same(3);
            vm.passReal(3, v);
            vm.call(0);
            vm.run(1);
            CHECKS.sameReal("a FLOAT of " + v, vm.real(), (float) v);
            vm = same(4);
            vm.passReal(4, v);
            vm.call(0);
            vm.run(1);
            CHECKS.sameReal("a DOUBLE of " + v, vm.real(), v);
        }
    }

    private static boolean pass(PairVm vm, int type) {
        return type <= 2 ? vm.pass(type, 1) : vm.passReal(type, 1);
    }

    private static void argumentsAreThoseOfTheParameters() {
        for (int type = 1; type <= 4; type++) {
            PairVm vm = Code.one(0, Code.types(1, type), 4, 14).machine();
            for (int other = 1; other <= 4; other++) {
                vm.pass(1, 1);
                pass(vm, other);
                CHECKS.thrown(other + " for " + type, other == type ? null : ILL, () -> vm.call(0));
            }
            vm.pass(1, 1);
            CHECKS.thrown("one less", ILL, () -> vm.call(0));
            CHECKS.thrown("none", ILL, () -> vm.call(0));
            vm.pass(1, 1);
            pass(vm, type);
            vm.pass(1, 1);
            CHECKS.thrown("one more", ILL, () -> vm.call(0));
        }
        PairVm vm = Code.one(0, Code.types(), 4, 14).machine();
        vm.pass(1, 1);
        CHECKS.thrown("one for none", ILL, () -> vm.call(0));
        CHECKS.thrown("none for none", null, () -> vm.call(0));
        PairVm two = Code.one(0, Code.types(1, 2), 4, 14).machine();
        two.pass(2, 1);
        two.pass(1, 1);
        CHECKS.thrown("the other order", ILL, () -> two.call(0));
    }

    private static void argumentsAreGone() {
        PairVm vm = Code.methods(2, 0).method(1, Code.types(1), 1, 15)
            .method(0, Code.types(), 0, 14).machine();
        vm.pass(1, 4);
        vm.call(0);
        CHECKS.thrown("they were taken", ILL, () -> vm.call(0));
        vm.pass(2, 4);
        CHECKS.thrown("of another type", ILL, () -> vm.call(0));
        vm.pass(1, 4);
        CHECKS.thrown("no such method", ILL, () -> vm.call(2));
        CHECKS.thrown("they were taken there, too", ILL, () -> vm.call(0));
        CHECKS.thrown("so there are none", null, () -> vm.call(1));

        PairVm unfit = Code.methods(2, 0).method(1, Code.types(1), 1, 15)
            .method(0, Code.types(), 0, 0).machine();
        unfit.pass(1, 4);
        CHECKS.thrown("not fit", UNFIT, () -> unfit.call(0));
        CHECKS.thrown("they were taken there, too", ILL, () -> unfit.call(0));

        PairVm empty = new PairVm();
        empty.pass(1, 4);
        CHECKS.thrown("no file", ILL, () -> empty.call(0));
        Code.methods(1, 0).method(1, Code.types(1), 1, 15).sealInto(empty);
        CHECKS.thrown("they were taken there, too", ILL, () -> empty.call(0));
        empty.pass(1, 9);
        Code.methods(1, 0).method(1, Code.types(1), 1, 15).sealInto(empty);
        empty.call(0);
        empty.run(1);
        CHECKS.same("a file that is read doesn't take them", empty.value(), 9);
    }

    private static void noSuchMethod() {
        PairVm vm = Code.methods(2, 0).method(0, Code.types(), 0, 14)
            .method(0, Code.types(), 0, 14).machine();
        int[] methods = {-1, 2, 3, 4, Integer.MIN_VALUE, Integer.MAX_VALUE};
        for (int m : methods) {
            CHECKS.thrown("method " + m, ILL, () -> vm.call(m));
        }
        CHECKS.same("idle", vm.state(), 0);
        CHECKS.thrown("method 1", null, () -> vm.call(1));
    }

    private static void notFit() {
        PairVm form = Code.methods(2, 0).method(0, Code.types(), 0, 14)
            .method(0, Code.types(), 0, 0).machine();
        CHECKS.thrown("another one's form isn't right", UNFIT, () -> form.call(0));
        CHECKS.thrown("no such method comes first", ILL, () -> form.call(2));
        form.pass(1, 1);
        CHECKS.thrown("other arguments come first", ILL, () -> form.call(0));
        CHECKS.same("idle", form.state(), 0);
        PairVm types = Code.methods(2, 0).method(0, Code.types(), 1, 123, 14)
            .method(0, Code.types(), 0, 14).machine();
        CHECKS.thrown("another one's types aren't", UNFIT, () -> types.call(1));
        PairVm last = Code.methods(4, 0).method(0, Code.types(), 0, 14)
            .method(0, Code.types(), 0, 14).method(0, Code.types(), 0, 14)
            .method(0, Code.types(), 1, 15).machine();
        CHECKS.thrown("the last one isn't", UNFIT, () -> last.call(0));
        Code.methods(3, 0).method(0, Code.types(), 0, 14).method(0, Code.types(), 0, 14)
            .method(0, Code.types(), 0, 14).sealInto(last);
        CHECKS.thrown("all of the next file are", null, () -> last.call(2));
    }

    private static void inPlaceOfWhatWasRun() {
        PairVm vm = Code.methods(2, 1).method(1, Code.types(1), 2, 18 | 3 << 12, 103, 0, 0, 15)
            .method(1, Code.types(), 1, 18 | 5 << 12, 113 | 1 << 12, 0, 0, 10, 15).machine();
        vm.call(1);
        vm.run(3);
        CHECKS.same("two open", vm.calls(), 2);
        CHECKS.thrown("other arguments", ILL, () -> vm.call(0));
        CHECKS.same("it stays", vm.calls(), 2);
        CHECKS.same("and where it is", vm.at(0), 1);
        vm.call(1);
        CHECKS.same("one open", vm.calls(), 1);
        CHECKS.same("from unit 0 on", vm.at(0), 0);
        CHECKS.same("all of it", vm.run(200), 8);
        CHECKS.same("value", vm.value(), 3);
        CHECKS.thrown("no such method", ILL, () -> vm.call(5));
        CHECKS.same("what has returned stays", vm.state(), 2);
        CHECKS.same("its value, too", vm.value(), 3);
        vm.call(1);
        CHECKS.same("it runs", vm.state(), 1);
        CHECKS.same("no value yet", vm.value(), 0);
        CHECKS.sameReal("not as a real either", vm.real(), 0.0);
    }

    private static void argumentsInTheLastRegisters() {
        int[][] returns = {{1, 15 | 5 << 8}, {2, 16 | 6 << 8}, {4, 16 | 8 << 8}};
        for (int[] one : returns) {
            PairVm vm = Code.one(one[0], Code.types(1, 2, 4), 10, one[1]).machine();
            vm.pass(1, 11);
            vm.pass(2, 12L << 40);
            vm.passReal(4, 13.5);
            vm.call(0);
            vm.run(1);
            CHECKS.sameReal("argument " + one[0], vm.real(),
                one[0] == 1 ? 11.0 : one[0] == 2 ? (double) (12L << 40) : 13.5);
        }
    }
}
