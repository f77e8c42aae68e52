/** Promise 6, as far as the form of the instructions goes. */
public final class FormTest {
    private static final Checks CHECKS = new Checks();
    private static final int GOOD = PairVm.NONE;
    /** Of one unit each. */
    private static final int[] SHORT = {0, 1, 4, 10, 11, 14, 15, 16, 18, 40, 123, 125, 127, 128,
        129, 130, 131, 132, 133, 134, 135, 136, 137, 138, 139, 140};
    /** Of two units each. */
    private static final int[] LONG = {19, 22, 45, 47, 49, 50, 51, 52, 53, 54, 55, 56, 57, 58, 59,
        60, 61, 96, 103, 144, 145, 146, 147, 148, 149, 150, 151, 152, 153, 154, 155, 156, 157, 158,
        159, 166, 167, 168, 169, 171, 172, 173, 174};

    public static void main(String[] args) {
        noSuchMethod();
        operations();
        unitsMissing();
        behindABadOne();
        registersOfOne();
        registersOfC();
        whatIsNotUsedMayBeAnything();
        fields();
        methods();
        words();
        pairsFollow();
        results();
        goingOn();
        branching();
        goingOnToAResult();
        returning();
        notComeTo();
        theFirstOne();
        formBeforeTypes();
        CHECKS.end("FormTest");
    }

    /** The verdict on a method without parameters, of 4 registers, that returns nothing. */
    private static void form(String what, int due, int... units) {
        PairVm vm = Code.methods(1, 2).method(0, Code.types(), 4, units).machine();
        CHECKS.same("verify of " + what, vm.verify(0), due);
        CHECKS.same("type of " + what, vm.type(0, 0, 0) == PairVm.NONE, due != GOOD);
    }

    /** As form, but wrong types (from unit 0 on) are told from a form that isn't right. */
    private static boolean isFormed(int registers, int... units) {
        PairVm vm = Code.methods(1, 2).method(0, Code.types(), registers, units).machine();
        return vm.type(0, 0, 0) == 0 || (registers == 0 && vm.verify(0) == GOOD);
    }

    private static void noSuchMethod() {
        PairVm vm = Code.methods(2, 0).method(0, Code.types(), 0, 14)
            .method(0, Code.types(), 0, 14).machine();
        CHECKS.same("method 0", vm.verify(0), GOOD);
        CHECKS.same("method 1", vm.verify(1), GOOD);
        CHECKS.same("method 2", vm.verify(2), -2);
        CHECKS.same("method 4", vm.verify(4), -2);
        CHECKS.same("method -1", vm.verify(-1), -2);
        CHECKS.same("the least", vm.verify(Integer.MIN_VALUE), -2);
        CHECKS.same("the greatest", vm.verify(Integer.MAX_VALUE), -2);
    }

    /** An operation's units tell whether there is one, and how long it is. */
    private static void operations() {
        for (int operation = 0; operation < 256; operation++) {
            int length = lengthOf(operation);
            boolean known = length > 0;
            boolean result = operation == 10 || operation == 11;
            boolean leavesOther = operation == 15 || operation == 16;
            boolean call = operation == 113;
            // The second and third unit, if they aren't of the one before, are two of nothing.
            int[] units = {operation, 0, 0, 14};
            if (operation >= 50 && operation <= 61) {
                units[1] = 2;
            }
            if (operation == 40) {
                units[0] = Code.aa(40, 1);
            }
            boolean due = known && !result && !leavesOther;
            CHECKS.same("operation " + operation, isFormed(4, units), due);
            if (length == 2 && !call) {
                // Were it of one unit, the one behind, of an operation that isn't, would be wrong.
                units[1] = operation >= 50 && operation <= 61 ? 2 : 2 << 8 | 2;
                boolean field = operation == 96 || operation == 103;
                CHECKS.same("operation " + operation + " has two units", isFormed(4, units), !field);
            }
        }
        form("113 of three units", GOOD, 113, 0, 255, 14);
    }

    private static int lengthOf(int operation) {
        for (int one : SHORT) {
            if (one == operation) {
                return 1;
            }
        }
        for (int one : LONG) {
            if (one == operation) {
                return 2;
            }
        }
        return operation == 113 ? 3 : 0;
    }

    private static void unitsMissing() {
        for (int operation : LONG) {
            CHECKS.same("half of " + operation, isFormed(4, 0, operation), false);
            form("half of " + operation, 1, 0, operation);
        }
        form("a third of 113", 2, 0, 0, 113);
        form("two thirds of 113", 1, 0, 113, 0);
        form("all of 113, but nothing behind", 1, 0, 113, 0, 0);
    }

    private static void behindABadOne() {
        form("no such operation", 1, 0, 255, 14);
        form("going on to it by a branch", 3, 56, 3, 14, 255, 14);
        form("going on to it by 40", 2, Code.aa(40, 2), 14, 255, 14);
        form("going on to one whose units are missing", 2, Code.aa(40, 2), 14, 19);
        form("going on behind it", 0, 56, 3, 255, 14);
        form("going on behind it by 40", 0, Code.aa(40, 2), 255, 14);
        form("going on into one whose units are missing", 0, 56, 4, 0, 113, 0);
        form("a result behind it", 1, 0, 200, 10, 14);
        form("a bad one first", 0, 2, 14);
        form("a bad one last", 1, 14, 2);
        form("a bad one behind 113", 3, 113, 0, 0, 2);
    }

    /** Each operand's register, and of pairs the second one, is there. */
    private static void registersOfOne() {
        for (int registers = 0; registers <= 10; registers++) {
            for (int r = 0; r <= 15; r++) {
                boolean one = r < registers;
                boolean pair = r + 1 < registers;
                String at = " with register " + r + " of " + registers;
                CHECKS.same("18" + at, isFormed(registers, Code.ab(18, r, 9), 14), one);
                CHECKS.same("19" + at, isFormed(registers, Code.aa(19, r), 5, 14), one);
                CHECKS.same("22" + at, isFormed(registers, Code.aa(22, r), 5, 14), pair);
                CHECKS.same("96" + at, isFormed(registers, Code.aa(96, r), 1, 14), one);
                if (registers == 0) {
                    continue;
                }
                CHECKS.same("56" + at, isFormed(registers, Code.aa(56, r), 2, 14), one);
                CHECKS.same("61" + at, isFormed(registers, Code.aa(61, r), 2, 14), one);
                CHECKS.same("103" + at, isFormed(registers, Code.aa(103, r), 1, 14), one);
                CHECKS.same("50, A" + at, isFormed(registers, Code.ab(50, r, 0), 2, 14), one);
                CHECKS.same("55, B" + at, isFormed(registers, Code.ab(55, 0, r), 2, 14), one);
                for (int operation : SHORT) {
                    if (operation == 1 || operation == 4 || operation >= 123) {
                        aOfB(registers, operation, r);
                    }
                }
            }
        }
        CHECKS.same("19 with register 255", isFormed(10, Code.aa(19, 255), 5, 14), false);
        CHECKS.same("22 with register 255", isFormed(10, Code.aa(22, 255), 5, 14), false);
        CHECKS.same("19 with register 16", isFormed(10, Code.aa(19, 16), 5, 14), false);
    }

    private static void aOfB(int registers, int operation, int r) {
        String setsPairs = " 4 125 128 129 131 134 136 137 139 ";
        String usesPairs = " 4 125 128 132 133 134 138 139 140 ";
        int widthA = setsPairs.contains(" " + operation + " ") ? 2 : 1;
        int widthB = usesPairs.contains(" " + operation + " ") ? 2 : 1;
        boolean due = r + widthA <= registers && widthB <= registers;
        CHECKS.same(operation + ", A is " + r + " of " + registers,
            isFormed(registers, Code.ab(operation, r, 0), 14), due);
        due = r + widthB <= registers && widthA <= registers;
        CHECKS.same(operation + ", B is " + r + " of " + registers,
            isFormed(registers, Code.ab(operation, 0, r), 14), due);
    }

    private static void registersOfC() {
        for (int operation : LONG) {
            boolean ofC = operation == 45 || operation == 47 || operation == 49 || operation >= 144;
            if (!ofC) {
                continue;
            }
            boolean longs = operation >= 155 && operation <= 159;
            boolean doubles = operation >= 171;
            int widthA = longs || doubles ? 2 : 1;
            int width = longs || doubles || operation == 47 || operation == 49 ? 2 : 1;
            for (int r : new int[] {0, 1, 2, 3, 4, 5, 9, 10, 15, 16, 127, 128, 255}) {
                String at = operation + " with " + r + " as ";
                CHECKS.same(at + "AA",
                    isFormed(4, Code.aa(operation, r), Code.cd(0, 0), 14), r + widthA <= 4);
                CHECKS.same(at + "C",
                    isFormed(4, operation, Code.cd(r, 0), 14), r + width <= 4);
                CHECKS.same(at + "D",
                    isFormed(4, operation, Code.cd(0, r), 14), r + width <= 4);
            }
        }
    }

    private static void whatIsNotUsedMayBeAnything() {
        form("nothing with A and B", GOOD, Code.aa(0, 255), Code.aa(14, 255));
        PairVm vm = Code.methods(2, 0)
            .method(0, Code.types(), 1, 18, Code.ab(113, 15, 1), 1, 0xfff0, 14)
            .method(0, Code.types(1), 1, 14).machine();
        CHECKS.same("A of 113 and what is named behind the B-th", vm.verify(0), GOOD);
        form("113 of none", GOOD, Code.ab(113, 15, 0), 0, 0xffff, 14);
        form("18 has no register B", GOOD, Code.ab(18, 0, 15), 14);
    }

    private static void fields() {
        for (int fields = 0; fields <= 4; fields++) {
            for (int n : new int[] {0, 1, 2, 3, 4, 5, 255, 256, 0x7fff, 0x8000, 0xfffe, 0xffff}) {
                PairVm vm = Code.methods(1, fields)
                    .method(0, Code.types(1), 1, 96, n, 14).machine();
                CHECKS.same("field " + n + " of " + fields, vm.verify(0), n < fields ? GOOD : 0);
                vm = Code.methods(1, fields).method(0, Code.types(1), 1, 0, 103, n, 14).machine();
                CHECKS.same("field " + n + " of " + fields, vm.verify(0), n < fields ? GOOD : 1);
            }
        }
    }

    private static void methods() {
        for (int n : new int[] {0, 1, 2, 3, 4, 256, 0x8000, 0xfffe, 0xffff}) {
            PairVm vm = Code.methods(2, 0).method(0, Code.types(), 0, 113, n, 0, 14)
                .method(0, Code.types(), 0, 14).machine();
            CHECKS.same("method " + n + " of 2", vm.verify(0), n < 2 ? GOOD : 0);
        }
        PairVm vm = Code.methods(2, 0).method(0, Code.types(), 0, 113, 1, 0, 14)
            .method(0, Code.types(), 0, 2).machine();
        CHECKS.same("a method of another form may be called", vm.verify(0), GOOD);
        CHECKS.same("the other one", vm.verify(1), 0);
    }

    /** The types of a row of parameters, as many words as are named. */
    private static void words() {
        int[][] parameters = {{}, {1}, {3}, {2}, {4}, {1, 1}, {1, 2}, {2, 3}, {2, 4}, {1, 1, 1},
            {1, 1, 2}, {3, 4, 1}, {2, 2, 1}, {4, 4, 3}, {2, 4, 2}};
        for (int[] row : parameters) {
            int words = 0;
            for (int type : row) {
                words += type == 2 || type == 4 ? 2 : 1;
            }
            for (int b = 0; b <= 15; b++) {
                PairVm vm = Code.methods(2, 0)
                    .method(0, Code.types(), 4, 0, Code.ab(113, 0, b), 1, 0x3210, 14)
                    .method(0, row, 10, 14).machine();
                boolean formed = b == words && b <= 4;
                CHECKS.same(b + " words for " + words, vm.type(0, 0, 0), formed ? 0 : PairVm.NONE);
                CHECKS.same("and the verdict", vm.verify(0), formed && b == 0 ? GOOD : 1);
            }
        }
        for (int r = 0; r <= 15; r++) {
            for (int place = 0; place < 3; place++) {
                int names = (0x0210 & ~(15 << 4 * place)) | r << 4 * place;
                PairVm vm = Code.methods(2, 0)
                    .method(0, Code.types(1, 1, 1), 3, Code.ab(113, 0, 3), 1, names, 14)
                    .method(0, Code.types(1, 1, 1), 3, 14).machine();
                CHECKS.same("register " + r + " named", vm.verify(0), r < 3 ? GOOD : 0);
            }
        }
    }

    private static void pairsFollow() {
        for (int low = 0; low <= 15; low++) {
            for (int high = 0; high <= 15; high++) {
                PairVm vm = Code.methods(2, 0)
                    .method(0, Code.types(), 6, Code.ab(113, 0, 2), 1, Code.names(low, high), 14)
                    .method(0, Code.types(2), 2, 14).machine();
                boolean formed = high == low + 1 && high < 6;
                CHECKS.same("the pair " + low + " " + high, vm.type(0, 0, 0),
                    formed ? 0 : PairVm.NONE);
            }
        }
        int[][] names = {{0, 1, 2, 3}, {2, 3, 0, 1}, {1, 0, 2, 3}, {0, 1, 3, 2}, {0, 1, 1, 2}};
        boolean[] due = {true, true, false, false, true};
        for (int i = 0; i < names.length; i++) {
            PairVm vm = Code.methods(2, 0)
                .method(0, Code.types(), 4, Code.ab(113, 0, 4), 1, Code.names(names[i]), 14)
                .method(0, Code.types(2, 4), 4, 14).machine();
            CHECKS.same("two pairs, " + i, vm.type(0, 0, 0) == 0, due[i]);
            vm = Code.methods(2, 0)
                .method(0, Code.types(), 4, Code.ab(113, 0, 4), 1, Code.names(names[i]), 14)
                .method(0, Code.types(1, 4, 3), 4, 14).machine();
            boolean middle = names[i][2] == names[i][1] + 1;
            CHECKS.same("a pair between, " + i, vm.type(0, 0, 0) == 0, middle);
        }
    }

    private static void results() {
        for (int returns = 0; returns <= 4; returns++) {
            boolean one = returns == 1 || returns == 3;
            boolean pair = returns == 2 || returns == 4;
            result(returns, Code.aa(10, 1), one);
            result(returns, Code.aa(11, 1), pair);
            result(returns, Code.aa(10, 2), one);
            result(returns, Code.aa(11, 2), false);
            result(returns, Code.aa(10, 3), false);
            result(returns, Code.aa(10, 0x10), false);
            result(returns, 0, true);
        }
        form("a result first", 0, 10, 14);
        form("a result of a pair first", 0, 11, 14);
        PairVm vm = Code.methods(2, 0)
            .method(0, Code.types(), 3, 113, 1, 0, 10, 10, 14)
            .method(1, Code.types(1), 1, 15).machine();
        CHECKS.same("another one's words", vm.verify(0), 0);
        vm = Code.methods(2, 0)
            .method(0, Code.types(), 3, 113, 1, 0, 10, 10, 14)
            .method(1, Code.types(), 1, 18, 15).machine();
        CHECKS.same("a second result: what goes on to it is first", vm.verify(0), 3);
        vm = Code.methods(2, 0)
            .method(0, Code.types(), 3, 113, 1, 0, 0, 10, 14)
            .method(1, Code.types(), 1, 18, 15).machine();
        CHECKS.same("a result not right behind", vm.verify(0), 3);
        vm = Code.methods(2, 0)
            .method(0, Code.types(), 3, 14, 10, 14)
            .method(1, Code.types(), 1, 18, 15).machine();
        CHECKS.same("a result behind a return", vm.verify(0), 1);
    }

    /** A 113 of a method that returns a type, and a unit behind it, of three registers. */
    private static void result(int returns, int unit, boolean right) {
        int[] code = {Code.aa(40, 0)};
        PairVm vm = Code.methods(2, 0).method(0, Code.types(), 3, 113, 1, 0, unit, 14)
            .method(returns, Code.types(), 2, code).machine();
        CHECKS.same("unit " + unit + " behind a call that returns " + returns, vm.verify(0),
            right ? GOOD : 3);
        CHECKS.same("the called one", vm.verify(1), GOOD);
    }

    private static void goingOn() {
        form("a last one of nothing", 0, 0);
        form("a last 18", 1, 0, 18);
        form("a last 19", 1, 0, 19, 5);
        form("a last 103", 1, 0, 103, 0);
        form("a last branch", 2, 18, 0, 56, -1);
        form("a last 113", 0, 113, 0, 0);
        form("a last 40", GOOD, 0, Code.aa(40, -1));
        form("a last return", GOOD, 14);
        form("behind a return", GOOD, 14, 14);
    }

    private static void branching() {
        for (int n = -128; n <= 127; n++) {
            // Begins: 0, 1, 3, 4, 5, 6, 7.
            boolean begin = n >= -4 && n <= 3 && n != -2;
            form("40 by " + n, begin ? GOOD : 4, 0, 19, 1, 0, Code.aa(40, n), 14, 18, 14);
        }
        form("40 by 1", GOOD, Code.aa(40, 1), 14);
        int[] far = {-0x8000, -5, -4, -3, -2, -1, 0, 1, 2, 3, 4, 5, 0x7fff};
        for (int operation = 50; operation <= 61; operation++) {
            for (int n : far) {
                // Begins: 0, 1, 3, 4, 6, 7; the branch is at 4.
                boolean begin = n == -4 || n == -3 || n == -1 || n == 0 || n == 2 || n == 3;
                form(operation + " by " + n, begin ? GOOD : 4,
                    0, 19, 1, 18, operation, n, 18, 14);
            }
        }
        form("a branch behind the code", 1, 18, 56, 3, 14);
        form("40 before the code", 0, Code.aa(40, -1), 14);
        form("40 to itself", GOOD, Code.aa(40, 0));
    }

    private static void goingOnToAResult() {
        int[] called = {18, 15};
        int[][] codes = {
            {113, 1, 0, 10, Code.aa(40, -1), 14},
            {18, 56, 5, 113, 1, 0, 10, 14},
            {113, 1, 0, 10, 56, -1, 14},
            {18, 56, 4, 113, 1, 0, 10, 14},
            {Code.aa(40, 4), 113, 1, 0, 10, 14},
            {Code.aa(40, 1), 113, 1, 0, 10, 14},
            {18, 56, 2, 113, 1, 0, 10, 14},
        };
        int[] due = {4, 1, 4, 1, 0, GOOD, GOOD};
        for (int i = 0; i < codes.length; i++) {
            PairVm vm = Code.methods(2, 0).method(0, Code.types(), 1, codes[i])
                .method(1, Code.types(), 1, called).machine();
            CHECKS.same("going on to a result, " + i, vm.verify(0), due[i]);
        }
    }

    private static void returning() {
        int[][] codes = {{14}, {15}, {16}};
        for (int returns = 0; returns <= 4; returns++) {
            for (int i = 0; i < 3; i++) {
                boolean right = i == (returns == 0 ? 0 : returns == 1 || returns == 3 ? 1 : 2);
                PairVm vm = Code.one(returns, Code.types(), 3, codes[i]).machine();
                CHECKS.same("return " + i + " of a method that returns " + returns,
                    vm.type(0, 0, 0) == 0, right);
            }
            int operation = returns == 1 || returns == 3 ? 15 : 16;
            for (int r = 0; r <= 20 && returns != 0; r++) {
                boolean there = operation == 15 ? r < 3 : r < 2;
                PairVm vm = Code.one(returns, Code.types(), 3, Code.aa(operation, r)).machine();
                CHECKS.same("register " + r + " returned", vm.type(0, 0, 0) == 0, there);
            }
        }
    }

    private static void notComeTo() {
        form("a wrong register that can't be come to", 1, 14, Code.aa(19, 4), 0, 14);
        form("an operation that can't be come to", 2, 14, 0, 255, 14);
        form("the same, but one goes behind it", 0, Code.aa(40, 3), 0, 255, 14);
        form("one behind the end", 1, 14, 0);
        form("wrong types that can't be come to", GOOD, 14, 144, 0, 14);
    }

    private static void theFirstOne() {
        form("two bad ones", 1, 0, Code.aa(19, 9), 0, Code.aa(19, 9), 0, 14);
        form("what goes on wrongly is before the bad one", 0, Code.aa(40, 9), Code.aa(19, 9), 0, 14);
    }

    private static void formBeforeTypes() {
        form("wrong types first, then a bad form", 2, 144, 0, Code.aa(19, 9), 0, 14);
        PairVm vm = Code.methods(1, 2).method(0, Code.types(), 4, 144, 0, 14).machine();
        CHECKS.same("wrong types alone", vm.verify(0), 0);
    }
}
