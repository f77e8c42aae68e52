import java.util.function.Consumer;

/**
 * Each call that is refused, in each state, leaves as it was what the document says: of two objects
 * with the same calls one is asked for what is refused, and from there on both answer the same.
 */
public final class RefusedCallsTest {
    private static final Checks CHECKS = new Checks();
    private static final Class<IllegalArgumentException> ILL = IllegalArgumentException.class;
    private static final Class<IllegalStateException> STATE = IllegalStateException.class;
    private static final double GREATEST = 1152921504606846976.0;
    private static final int SCENES = 14;
    private static final int FUTURES = 9;

    public static void main(String[] args) {
        for (int scene = 0; scene < SCENES; scene++) {
            passOfNoSuchType(scene);
            passRealOfNoSuchType(scene);
            passRealBeyondItsBounds(scene);
            passOfAFourth(scene);
            runOfNoSuchNumber(scene);
            runOfWhatDoesNotRun(scene);
            runOfNothing(scene);
            questionsChangeNothing(scene);
            putOfThe221st(scene);
            sealOfMoreThan212(scene);
            loadOfAnIllFile(scene);
            callOfWhatIsNotThere(scene);
        }
        theFileIsReplacedAsAWhole();
        callsOfWhatIsNotFit();
        CHECKS.end("RefusedCallsTest");
    }

    // ---- The states that an object may be in, and what may come then

    /** Method 0 has an INT and calls 1; 1 to 3 return a FLOAT, a LONG and nothing. */
    private static Code fit() {
        return Code.methods(4, 3)
            .method(1, Code.types(1), 2, Code.aa(103, 1), 1, 113, 1, 0, Code.aa(10, 0),
                Code.aa(147, 0), Code.cd(1, 1), 15)
            .method(3, Code.types(), 1, 18 | 3 << 12, Code.aa(103, 0), 0, Code.ab(130, 0, 0), 15)
            .method(2, Code.types(), 2, Code.aa(22, 0), 77, Code.ab(125, 0, 0), 16)
            .method(0, Code.types(), 1, 113, 3, 0, 14);
    }

    private static Code unfit() {
        return Code.methods(2, 1).method(0, Code.types(), 1, 18, 14)
            .method(1, Code.types(), 2, Code.ab(123, 0, 1), 15);
    }

    private static PairVm scene(int scene) {
        PairVm vm = new PairVm();
        if (scene >= 3) {
            (scene == 3 ? unfit() : fit()).sealInto(vm);
        }
        switch (scene) {
            case 1: Code.putAll(vm, 100, 101, 120); break;
            case 2: ill(vm, 1, 0, 9); vm.passReal(4, 2.5); break;
            case 5: ill(vm, 1, 5); vm.pass(1, 6); break;
            case 6: callZero(vm, 5); break;
            case 7: callZero(vm, 5); vm.run(3); Code.putAll(vm, 1, 0); vm.pass(1, 8); break;
            case 8: callZero(vm, 5); vm.run(200); vm.pass(1, 8); break;
            case 9: callZero(vm, 0); Seen.run(vm, 200); break;
            case 10: vm.call(1); vm.run(200); break;
            case 11: vm.call(2); vm.run(200); Code.putAll(vm, fit().toFile()); break;
            case 12: vm.call(3); Seen.run(vm, 200); vm.pass(1, -1); break;
            case 13: vm.call(3); vm.run(5); break;
            default: break;
        }
        return vm;
    }

    private static void ill(PairVm vm, int... bytes) {
        Code.putAll(vm, bytes);
        Seen.seal(vm);
    }

    private static void callZero(PairVm vm, int argument) {
        vm.pass(1, argument);
        vm.call(0);
    }

    /** What may come next; it tells apart other bytes, arguments, files, fields and calls. */
    private static String future(PairVm vm, int future) {
        switch (future) {
            case 0: return Seen.of(vm);
            case 1: return Seen.run(vm, 1) + Seen.run(vm, 200) + Seen.of(vm);
            case 2: return Seen.load(vm) + Seen.of(vm);
            case 3: return Seen.seal(vm) + Seen.of(vm);
            case 4: return Seen.call(vm, 0) + Seen.run(vm, 3) + Seen.of(vm);
            case 5: return Seen.call(vm, 1) + Seen.run(vm, 200) + Seen.of(vm);
            case 6: return vm.pass(1, 9) + Seen.call(vm, 0) + Seen.run(vm, 200) + Seen.of(vm);
            case 7: return vm.put(1) + Seen.load(vm) + Seen.of(vm);
            default: return vm.pass(2, 4) + " " + vm.pass(1, 4) + " " + vm.pass(1, 4)
                + Seen.call(vm, 0) + Seen.of(vm);
        }
    }

    /** Both do the first calls; only one does what is refused. */
    private static void leavesAll(String what, int scene, Consumer<PairVm> first,
            Consumer<PairVm> refused) {
        for (int future = 0; future < FUTURES; future++) {
            PairVm one = scene(scene);
            first.accept(one);
            String before = Seen.of(one);
            refused.accept(one);
            sameText(what + " in scene " + scene + ", at once", Seen.of(one), before);
            PairVm other = scene(scene);
            first.accept(other);
            sameText(what + " in scene " + scene, future(one, future), future(other, future));
        }
    }

    private static void sameText(String what, String got, String due) {
        CHECKS.same(what + ": [" + got + "], due is [" + due + "]", got.equals(due), true);
    }

    private static void nothing(PairVm vm) {
    }

    // ---- What is refused

    /** "false if ... type is another one (3 and 4, too)". */
    private static void passOfNoSuchType(int scene) {
        int[] types = {Integer.MIN_VALUE, -1, 0, 3, 4, 5, 257, Integer.MAX_VALUE};
        for (int type : types) {
            leavesAll("pass as " + type, scene, RefusedCallsTest::nothing,
                vm -> CHECKS.same("pass as " + type, vm.pass(type, 5), false));
        }
    }

    /** "false as with pass (of types 1 and 2, too)". */
    private static void passRealOfNoSuchType(int scene) {
        int[] types = {Integer.MIN_VALUE, -1, 0, 1, 2, 5, 259, 260, Integer.MAX_VALUE};
        for (int type : types) {
            leavesAll("passReal as " + type, scene, RefusedCallsTest::nothing,
                vm -> CHECKS.same("passReal as " + type, vm.passReal(type, 5), false));
        }
    }

    /** "or if v isn't between -2 to the 60 and 2 to the 60". */
    private static void passRealBeyondItsBounds(int scene) {
        double[] reals = {Math.nextUp(GREATEST), -Math.nextUp(GREATEST), Double.MAX_VALUE,
            -Double.MAX_VALUE, Double.POSITIVE_INFINITY, Double.NEGATIVE_INFINITY, Double.NaN};
        for (double v : reals) {
            for (int type = 3; type <= 4; type++) {
                int as = type;
                leavesAll("passReal of " + v, scene, RefusedCallsTest::nothing,
                    vm -> CHECKS.same("passReal of " + v, vm.passReal(as, v), false));
            }
        }
    }

    /** "false if there are three". */
    private static void passOfAFourth(int scene) {
        leavesAll("a fourth", scene, RefusedCallsTest::passThree, vm -> {
            CHECKS.same("a fourth INT", vm.pass(1, 5), false);
            CHECKS.same("a fourth LONG", vm.pass(2, 5), false);
            CHECKS.same("a fourth FLOAT", vm.passReal(3, 5), false);
            CHECKS.same("a fourth DOUBLE", vm.passReal(4, 5), false);
        });
    }

    private static void passThree(PairVm vm) {
        for (int i = 0; i < 3; i++) {
            vm.pass(1, i);
        }
    }

    /** "IllegalArgumentException: n isn't 0 .. 200." */
    private static void runOfNoSuchNumber(int scene) {
        int[] numbers = {-1, 201, 256, Integer.MIN_VALUE, Integer.MAX_VALUE};
        for (int n : numbers) {
            leavesAll("run " + n, scene, RefusedCallsTest::nothing,
                vm -> CHECKS.thrown("run " + n, ILL, () -> vm.run(n)));
        }
    }

    /** "Else IllegalStateException: the machine doesn't run." */
    private static void runOfWhatDoesNotRun(int scene) {
        if (scene(scene).state() == 1) {
            return;
        }
        int[] numbers = {0, 1, 199, 200};
        for (int n : numbers) {
            leavesAll("run " + n, scene, RefusedCallsTest::nothing,
                vm -> CHECKS.thrown("run " + n, STATE, () -> vm.run(n)));
        }
    }

    private static void runOfNothing(int scene) {
        if (scene(scene).state() == 1) {
            leavesAll("run 0", scene, RefusedCallsTest::nothing,
                vm -> CHECKS.same("run 0", vm.run(0), 0));
        }
    }

    private static void questionsChangeNothing(int scene) {
        leavesAll("questions", scene, RefusedCallsTest::nothing, Seen::of);
    }

    /** "false if there are 220". */
    private static void putOfThe221st(int scene) {
        leavesAll("put of the 221st", scene, vm -> fill(vm, 220), vm -> {
            CHECKS.same("put of the 221st", vm.put(100), false);
            CHECKS.same("and again", vm.put(0), false);
        });
    }

    /** Makes away with the bytes of the scene, by an ill file, and puts so many others. */
    private static void fill(PairVm vm, int count) {
        vm.put(0);
        CHECKS.thrown("an ill file", ILL, vm::load);
        for (int i = 0; i < count; i++) {
            CHECKS.same("put of " + i, vm.put(i * 7), true);
        }
    }

    /** "if there are more than 212 bytes (then nothing else happens: the bytes and place() stay)". */
    private static void sealOfMoreThan212(int scene) {
        for (int count = 213; count <= 220; count++) {
            int bytes = count;
            leavesAll("seal of " + count, scene, vm -> fill(vm, bytes),
                vm -> CHECKS.thrown("seal of " + bytes, ILL, vm::seal));
        }
        PairVm vm = scene(scene);
        fill(vm, 212);
        Seen.seal(vm);
        CHECKS.same("212 are read: ill at the first of them, 0", vm.place(), 8);
        Seen.load(vm);
        CHECKS.same("and there are none then", vm.place(), 0);
    }

    /** "the file before stays, and the machine; without bytes: at 0". */
    private static void loadOfAnIllFile(int scene) {
        for (int seals = 0; seals < 2; seals++) {
            PairVm vm = scene(scene);
            vm.put(0);
            String before = Seen.rest(vm);
            CHECKS.thrown("an ill one", ILL, seals == 1 ? vm::seal : vm::load);
            sameText("all stays, in scene " + scene, Seen.rest(vm), before);
        }
        int[] wrongCheck = fit().toFile();
        wrongCheck[7] ^= 1;
        int[][] files = {{}, {99}, {100, 101, 120, 10, 0, 0, 0, 0}, wrongCheck};
        int[] places = {0, 0, 8, 4};
        for (int i = 0; i < files.length; i++) {
            int[] file = files[i];
            int place = places[i];
            for (int future = 0; future < FUTURES; future++) {
                PairVm one = scene(scene);
                Seen.load(one);
                PairVm other = scene(scene);
                Seen.load(other);
                Code.putAll(one, file);
                CHECKS.thrown("load of an ill one", ILL, one::load);
                CHECKS.same("its place", one.place(), place);
                sameText("the rest stays", Seen.rest(one), Seen.rest(other));
                // Both are ill at the same place then, so that there is no other difference.
                Seen.load(one);
                Seen.load(other);
                sameText("an ill one", future(one, future), future(other, future));
            }
        }
    }

    /** "there is no such method (or file)": the arguments are gone, "what was run .. stays". */
    private static void callOfWhatIsNotThere(int scene) {
        PairVm used = scene(scene);
        String before = Seen.of(used);
        CHECKS.thrown("no such method", ILL, () -> used.call(-1));
        sameText("what was run stays, in scene " + scene, Seen.of(used), before);
        int[] methods = {-1, 4, 5, 256, Integer.MIN_VALUE, Integer.MAX_VALUE};
        for (int m : methods) {
            leavesAll("call of " + m, scene, vm -> Seen.call(vm, -1), vm -> {
                CHECKS.thrown("call of " + m, ILL, () -> vm.call(m));
                vm.pass(1, 3);
                vm.pass(2, 3);
                vm.passReal(3, 3);
                CHECKS.thrown("with three arguments", ILL, () -> vm.call(m));
            });
        }
        leavesAll("call with other arguments", scene, vm -> Seen.call(vm, -1), vm -> {
            vm.pass(2, 3);
            CHECKS.thrown("a LONG", ILL, () -> vm.call(0));
            vm.pass(1, 3);
            vm.pass(1, 3);
            CHECKS.thrown("two INTs", ILL, () -> vm.call(0));
        });
    }

    /** An ill file that is ill at its very end has changed nothing of the one before. */
    private static void theFileIsReplacedAsAWhole() {
        int[] next = Code.methods(4, 1).method(2, Code.types(2), 3, 14, 14)
            .method(4, Code.types(), 0, 14, 200).method(1, Code.types(1, 1), 3, 14)
            .method(3, Code.types(4), 2, 14, 0).toFile();
        for (int length = 0; length < next.length; length++) {
            PairVm vm = scene(7);
            Seen.load(vm);
            String before = Seen.rest(vm);
            Code.putAll(vm, java.util.Arrays.copyOf(next, length));
            CHECKS.thrown("so many bytes: " + length, ILL, vm::load);
            CHECKS.same("its length", vm.place(), length);
            sameText("all stays", Seen.rest(vm), before);
            CHECKS.same("it runs on", vm.run(200), 6);
            CHECKS.same("and returns", vm.state(), 2);
        }
        PairVm vm = scene(7);
        Seen.load(vm);
        Code.putAll(vm, next);
        CHECKS.same("all of it", vm.load(), 4);
        CHECKS.same("idle", vm.state(), 0);
        CHECKS.same("the field", vm.field(1), 0);
    }

    /** "Else IllegalStateException: some method of the file isn't FIT": nothing is called. */
    private static void callsOfWhatIsNotFit() {
        for (int m = 0; m < 2; m++) {
            int method = m;
            leavesAll("call of " + m, 3, vm -> Seen.call(vm, -1),
                vm -> CHECKS.thrown("call of " + method, STATE, () -> vm.call(method)));
        }
        leavesAll("arguments are gone", 3, vm -> Seen.call(vm, -1), vm -> {
            vm.pass(1, 3);
            CHECKS.thrown("arguments come first", ILL, () -> vm.call(0));
        });
    }
}
