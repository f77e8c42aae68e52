/** Promises 6 and 7, as far as the types of registers go. */
public final class TypesTest {
    private static final Checks CHECKS = new Checks();
    private static final int GOOD = PairVm.NONE;

    public static void main(String[] args) {
        parameters();
        noneOfThese();
        whatIsSet();
        moves();
        movesOfPairs();
        brokenPairs();
        results();
        uses();
        fieldsAndBranches();
        argumentsAndReturns();
        waysThatComeTogether();
        waysBackToUnit0();
        untilNothingChanges();
        aWrongOneGoesOn();
        cannotBeComeTo();
        firstWrong();
        eachMethodOfItsOwn();
        CHECKS.end("TypesTest");
    }

    /** The types that all registers have before a unit, a digit each. */
    private static String row(PairVm vm, int m, int unit, int registers) {
        StringBuilder text = new StringBuilder();
        for (int r = 0; r < registers; r++) {
            int type = vm.type(m, unit, r);
            text.append(type == PairVm.NONE ? "x" : "" + type);
        }
        return text.toString();
    }

    private static void row(String what, PairVm vm, int unit, String due) {
        String got = row(vm, 0, unit, due.length());
        CHECKS.same(what + ": at " + unit + " " + got + ", due is " + due, got.equals(due), true);
    }

    /** A method whose parameters are an INT, a LONG and a DOUBLE, in registers 5 to 9. */
    private static PairVm wide(int... units) {
        return Code.methods(1, 1).method(0, Code.types(1, 2, 4), 10, units).machine();
    }

    /** A method whose parameters are an INT, a FLOAT and a LONG, in registers 6 to 9. */
    private static PairVm narrow(int... units) {
        return Code.methods(1, 1).method(0, Code.types(1, 3, 2), 10, units).machine();
    }

    private static void parameters() {
        row("an INT, a LONG, a DOUBLE", wide(14), 0, "0000013456");
        row("an INT, a FLOAT, a LONG", narrow(14), 0, "0000001234");
        row("none", Code.one(0, Code.types(), 3, 14).machine(), 0, "000");
        row("in all registers", Code.one(0, Code.types(4, 2, 4), 6, 14).machine(), 0, "563456");
        row("one", Code.one(0, Code.types(3), 1, 14).machine(), 0, "2");
    }

    private static void noneOfThese() {
        PairVm vm = Code.methods(3, 0).method(0, Code.types(), 2, 19, 5, Code.aa(40, 2), 0, 14)
            .method(0, Code.types(), 1, 0, 2).method(0, Code.types(1), 1, 14).machine();
        CHECKS.same("unit 0", vm.type(0, 0, 0), 0);
        CHECKS.same("unit 1", vm.type(0, 1, 0), PairVm.NONE);
        CHECKS.same("unit 2", vm.type(0, 2, 0), 1);
        CHECKS.same("unit 3, that can't be come to", vm.type(0, 3, 0), PairVm.NONE);
        CHECKS.same("unit 4", vm.type(0, 4, 0), 1);
        CHECKS.same("unit 5", vm.type(0, 5, 0), PairVm.NONE);
        CHECKS.same("unit -1", vm.type(0, -1, 0), PairVm.NONE);
        CHECKS.same("unit 40", vm.type(0, 40, 0), PairVm.NONE);
        CHECKS.same("the last unit", vm.type(0, Integer.MAX_VALUE, 0), PairVm.NONE);
        CHECKS.same("the least unit", vm.type(0, Integer.MIN_VALUE, 0), PairVm.NONE);
        CHECKS.same("register 1", vm.type(0, 0, 1), 0);
        CHECKS.same("register 2", vm.type(0, 0, 2), PairVm.NONE);
        CHECKS.same("register -1", vm.type(0, 0, -1), PairVm.NONE);
        CHECKS.same("register 10", vm.type(0, 0, 10), PairVm.NONE);
        CHECKS.same("the greatest register", vm.type(0, 0, Integer.MAX_VALUE), PairVm.NONE);
        CHECKS.same("the least register", vm.type(0, 0, Integer.MIN_VALUE), PairVm.NONE);
        CHECKS.same("of another form", vm.type(1, 0, 0), PairVm.NONE);
        CHECKS.same("method 2", vm.type(2, 0, 0), 1);
        CHECKS.same("method 3", vm.type(3, 0, 0), PairVm.NONE);
        CHECKS.same("method -1", vm.type(-1, 0, 0), PairVm.NONE);
        CHECKS.same("the greatest method", vm.type(Integer.MAX_VALUE, 0, 0), PairVm.NONE);
    }

    /** What an operation gives, also if what it uses isn't right. */
    private static void whatIsSet() {
        int[] ofB = {123, 1, 125, 3, 127, 2, 128, 5, 129, 3, 130, 2, 131, 5, 132, 1, 133, 2, 134, 5,
            135, 1, 136, 3, 137, 5, 138, 1, 139, 3, 140, 2};
        for (int i = 0; i < ofB.length; i += 2) {
            int type = ofB[i + 1];
            String due = "1" + type + (type > 2 ? type + 1 : 0) + "0";
            PairVm vm = Code.one(0, Code.types(), 4, 18, Code.ab(ofB[i], 1, 2), 14).machine();
            row("what " + ofB[i] + " sets", vm, 2, due);
            CHECKS.same(ofB[i] + " uses none", vm.verify(0), 1);
        }
        for (int operation = 144; operation <= 174; operation++) {
            if (operation >= 160 && operation <= 165 || operation == 170) {
                continue;
            }
            int type = operation < 155 ? 1 : operation < 160 ? 3 : operation < 170 ? 2 : 5;
            String due = "1" + type + (type > 2 ? type + 1 : 0) + "0";
            PairVm vm = Code.one(0, Code.types(), 4, 18, Code.aa(operation, 1), Code.cd(2, 2), 14)
                .machine();
            row("what " + operation + " sets", vm, 3, due);
            CHECKS.same(operation + " uses none", vm.verify(0), 1);
        }
        for (int operation : new int[] {45, 47, 49}) {
            PairVm vm = Code.one(0, Code.types(), 4, 0, Code.aa(operation, 1), Code.cd(2, 2), 14)
                .machine();
            row("what " + operation + " sets", vm, 3, "0100");
            CHECKS.same(operation + " uses none", vm.verify(0), 1);
        }
        row("18, 19, 22", wide(18, Code.aa(19, 1), 5, Code.aa(22, 2), 5, 14), 5, "1134013456");
        row("96", wide(Code.aa(96, 3), 0, 14), 2, "0001013456");
    }

    private static void moves() {
        PairVm vm = narrow(Code.ab(1, 0, 6), Code.ab(1, 1, 7), Code.ab(1, 2, 8), Code.ab(1, 6, 9),
            Code.ab(1, 7, 5), 14);
        row("an INT", vm, 1, "1000001234");
        row("a FLOAT", vm, 2, "1200001234");
        row("the first half of a pair", vm, 3, "1200001234");
        row("the second half, on an INT", vm, 4, "1200000234");
        row("none, on a FLOAT", vm, 5, "1200000034");
        CHECKS.same("the first half isn't right", vm.verify(0), 2);
        CHECKS.same("INT and FLOAT are", narrow(Code.ab(1, 0, 6), Code.ab(1, 1, 7), 14).verify(0), GOOD);
        CHECKS.same("the second half isn't", narrow(0, Code.ab(1, 0, 9), 14).verify(0), 1);
        CHECKS.same("none isn't", narrow(0, Code.ab(1, 0, 5), 14).verify(0), 1);
        vm = narrow(Code.ab(1, 6, 6), Code.ab(1, 7, 7), Code.ab(1, 8, 8), 14);
        row("to itself", vm, 2, "0000001234");
        row("the half of a pair to itself", vm, 3, "0000001200");
        row("of a DOUBLE's halves", wide(Code.ab(1, 0, 8), Code.ab(1, 1, 9), 14), 2, "0000013456");
    }

    private static void movesOfPairs() {
        PairVm vm = wide(Code.ab(4, 0, 6), Code.ab(4, 2, 8), 14);
        row("a LONG", vm, 1, "3400013456");
        row("a DOUBLE", vm, 2, "3456013456");
        CHECKS.same("both are right", vm.verify(0), GOOD);
        vm = wide(Code.ab(4, 0, 6), Code.ab(4, 0, 7), Code.ab(4, 8, 5), Code.ab(4, 6, 0), 14);
        row("across two pairs", vm, 2, "0000013456");
        row("an INT and a half", vm, 3, "0000013400");
        row("none", vm, 4, "0000010000");
        CHECKS.same("across isn't right", vm.verify(0), 1);
        CHECKS.same("an INT and a half aren't", wide(0, Code.ab(4, 8, 5), 14).verify(0), 1);
        CHECKS.same("none isn't", wide(0, Code.ab(4, 8, 0), 14).verify(0), 1);
        CHECKS.same("a second half isn't", wide(0, Code.ab(4, 0, 7), 14).verify(0), 1);
        vm = wide(Code.ab(4, 5, 6), Code.ab(4, 6, 5), Code.ab(4, 7, 8), Code.ab(4, 8, 7), 14);
        row("to a pair that lies over it, below", vm, 1, "0000034056");
        row("and above", vm, 2, "0000003456");
        row("a DOUBLE below", vm, 3, "0000000560");
        row("and above", vm, 4, "0000000056");
        CHECKS.same("all are right", vm.verify(0), GOOD);
        row("to itself", wide(Code.ab(4, 6, 6), 14), 1, "0000013456");
    }

    private static void brokenPairs() {
        PairVm vm = wide(Code.aa(19, 6), 0, Code.aa(19, 9), 0, 14);
        row("the first of a LONG", vm, 2, "0000011056");
        row("the second of a DOUBLE", vm, 4, "0000011001");
        vm = wide(Code.aa(19, 7), 0, Code.aa(19, 8), 0, 14);
        row("the second of a LONG", vm, 2, "0000010156");
        row("the first of a DOUBLE", vm, 4, "0000010110");
        row("a pair over two", wide(Code.aa(22, 7), 0, 14), 2, "0000010340");
        row("a pair over an INT and a first", wide(Code.aa(22, 5), 0, 14), 2, "0000034056");
        row("a pair of the other type", wide(Code.aa(22, 8), 0, 14), 2, "0000013434");
        vm = wide(Code.ab(4, 7, 4), 14);
        row("none over two pairs", vm, 1, "0000010000");
        vm = wide(Code.ab(1, 7, 0), 14);
        row("none over the second", vm, 1, "0000010056");
        row("96 over the first", wide(Code.aa(96, 8), 0, 14), 2, "0000013410");
        vm = wide(Code.aa(22, 0), 1, Code.aa(22, 2), 1, Code.aa(22, 1), 1, 14);
        row("a pair over two of its type", vm, 6, "0340013456");
        CHECKS.same("none is wrong", vm.verify(0), GOOD);
        vm = wide(Code.aa(19, 9), 0, Code.ab(128, 0, 8), 14);
        CHECKS.same("the half that is left isn't right", vm.verify(0), 2);
    }

    private static void results() {
        String[] due = {"0000", "0100", "0340", "0200", "0560"};
        for (int returns = 1; returns <= 4; returns++) {
            int operation = returns == 1 || returns == 3 ? 10 : 11;
            PairVm vm = Code.methods(2, 0)
                .method(0, Code.types(), 4, 113, 1, 0, Code.aa(operation, 1), 14)
                .method(returns, Code.types(), 0, 40).machine();
            row("before the result of " + returns, vm, 3, "0000");
            row("the result of " + returns, vm, 4, due[returns]);
            CHECKS.same("fit", vm.verify(0), GOOD);
        }
        PairVm vm = Code.methods(2, 0)
            .method(0, Code.types(2, 2), 4, 113, 1, 0, Code.aa(11, 1), 14)
            .method(4, Code.types(), 0, 40).machine();
        row("a result over two pairs", vm, 4, "0560");
        vm = Code.methods(2, 0)
            .method(0, Code.types(2, 2), 4, 113, 1, 0, Code.aa(10, 1), 14)
            .method(3, Code.types(), 0, 40).machine();
        row("a result over a second half", vm, 4, "0234");
        vm = Code.methods(2, 0).method(1, Code.types(1), 1, 113 | 1 << 12, 0, 0, 10, 15)
            .method(0, Code.types(), 0, 14).machine();
        row("of the method itself", vm, 4, "1");
        CHECKS.same("fit", vm.verify(0), GOOD);
    }

    /** Parameters INT, FLOAT, LONG and, in another method, INT, LONG, DOUBLE: which one is right. */
    private static void uses() {
        int[] ofInt = {123, 129, 130, 131};
        int[] ofLong = {125, 132, 133, 134};
        int[] ofFloat = {127, 135, 136, 137};
        int[] ofDouble = {128, 138, 139, 140};
        for (int operation : ofInt) {
            useOfB(operation, 6, 5);
        }
        for (int operation : ofLong) {
            useOfB(operation, 8, 6);
        }
        for (int operation : ofFloat) {
            useOfB(operation, 7, -1);
        }
        for (int operation : ofDouble) {
            useOfB(operation, -1, 8);
        }
        for (int operation = 144; operation <= 174; operation++) {
            if (operation <= 154) {
                useOfCD(operation, 6, 5);
            } else if (operation <= 159) {
                useOfCD(operation, 8, 6);
            } else if (operation >= 166 && operation <= 169) {
                useOfCD(operation, 7, -1);
            } else if (operation >= 171) {
                useOfCD(operation, -1, 8);
            }
        }
        useOfCD(45, 7, -1);
        useOfCD(47, -1, 8);
        useOfCD(49, 8, 6);
    }

    private static void useOfB(int operation, int rightNarrow, int rightWide) {
        for (int r = 0; r <= 8; r++) {
            int[] code = {0, Code.ab(operation, 0, r), 14};
            CHECKS.same(operation + " of " + r, narrow(code).verify(0), r == rightNarrow ? GOOD : 1);
            CHECKS.same(operation + " of " + r, wide(code).verify(0), r == rightWide ? GOOD : 1);
        }
    }

    private static void useOfCD(int operation, int rightNarrow, int rightWide) {
        for (int r = 0; r <= 8; r++) {
            ofCD(operation, r, rightNarrow, rightNarrow, true);
            ofCD(operation, rightNarrow, r, rightNarrow, true);
            ofCD(operation, r, rightWide, rightWide, false);
            ofCD(operation, rightWide, r, rightWide, false);
        }
    }

    private static void ofCD(int operation, int c, int d, int right, boolean isNarrow) {
        if (c < 0 || d < 0) {
            return;
        }
        int[] code = {0, operation, Code.cd(c, d), 14};
        PairVm vm = isNarrow ? narrow(code) : wide(code);
        CHECKS.same(operation + " of " + c + " and " + d, vm.verify(0),
            c == right && d == right ? GOOD : 1);
    }

    private static void fieldsAndBranches() {
        for (int r = 0; r <= 9; r++) {
            CHECKS.same("103 of " + r, narrow(0, Code.aa(103, r), 0, 14).verify(0), r == 6 ? GOOD : 1);
            for (int operation = 56; operation <= 61; operation++) {
                CHECKS.same(operation + " of " + r,
                    narrow(0, Code.aa(operation, r), 2, 14).verify(0), r == 6 ? GOOD : 1);
            }
            for (int operation = 50; operation <= 55; operation++) {
                CHECKS.same(operation + " of " + r + " and 6",
                    narrow(0, Code.ab(operation, r, 6), 2, 14).verify(0), r == 6 ? GOOD : 1);
                CHECKS.same(operation + " of 6 and " + r,
                    narrow(0, Code.ab(operation, 6, r), 2, 14).verify(0), r == 6 ? GOOD : 1);
            }
        }
    }

    private static void argumentsAndReturns() {
        int[] registers = {6, 7, 8};
        int[] types = {1, 3, 2};
        for (int type = 1; type <= 4; type++) {
            boolean pair = type == 2 || type == 4;
            for (int r = 0; r <= 8; r++) {
                boolean right = false;
                for (int i = 0; i < 3; i++) {
                    right = right || registers[i] == r && types[i] == type;
                }
                int names = Code.names(r, r + 1);
                PairVm vm = Code.methods(2, 0)
                    .method(0, Code.types(1, 3, 2), 10, 0, Code.ab(113, 0, pair ? 2 : 1), 1, names, 14)
                    .method(0, Code.types(type), 2, 14).machine();
                CHECKS.same("argument " + r + " for " + type, vm.verify(0), right ? GOOD : 1);
                vm = Code.one(type, Code.types(1, 3, 2), 10, 0, Code.aa(pair ? 16 : 15, r)).machine();
                CHECKS.same("return " + r + " as " + type, vm.verify(0), right ? GOOD : 1);
            }
        }
        PairVm vm = Code.methods(2, 0)
            .method(0, Code.types(1, 4, 3), 4, Code.ab(113, 0, 4), 1, Code.names(3, 1, 2, 0), 14)
            .method(0, Code.types(3, 4, 1), 4, 14).machine();
        CHECKS.same("a FLOAT, a DOUBLE, an INT", vm.verify(0), GOOD);
        vm = Code.methods(2, 0)
            .method(0, Code.types(1, 4, 3), 4, Code.ab(113, 0, 4), 1, Code.names(3, 1, 2, 0), 14)
            .method(0, Code.types(3, 4, 3), 4, 14).machine();
        CHECKS.same("the third one isn't", vm.verify(0), 0);
        vm = Code.methods(2, 0)
            .method(0, Code.types(1, 4, 3), 4, Code.ab(113, 0, 4), 1, Code.names(3, 1, 2, 0), 14)
            .method(0, Code.types(3, 2, 1), 4, 14).machine();
        CHECKS.same("the second one isn't", vm.verify(0), 0);
    }

    /** One way sets, the other one doesn't; both come to the last unit. */
    private static void waysThatComeTogether() {
        PairVm vm = wide(Code.aa(56, 5), 4, Code.aa(19, 0), 1, 14);
        row("an INT or none", vm, 4, "0000013456");
        vm = wide(18, Code.aa(56, 5), 4, Code.aa(19, 0), 1, 14);
        row("an INT or an INT", vm, 5, "1000013456");
        vm = wide(18, Code.aa(56, 5), 3, Code.ab(130, 0, 5), 14);
        row("an INT or a FLOAT", vm, 4, "0000013456");
        vm = wide(Code.aa(56, 5), 4, Code.aa(19, 7), 1, 14);
        row("a pair whose second one isn't there", vm, 4, "0000010056");
        vm = wide(Code.aa(56, 5), 4, Code.aa(19, 6), 1, 14);
        row("a pair whose first one isn't there", vm, 4, "0000010056");
        vm = wide(Code.aa(56, 5), 3, Code.ab(4, 6, 8), 14);
        row("a LONG or a DOUBLE", vm, 3, "0000010056");
        vm = wide(Code.ab(4, 0, 6), Code.aa(56, 5), 3, Code.ab(4, 1, 6), 14);
        row("pairs that lie one over the other", vm, 4, "0000013456");
        vm = wide(Code.aa(56, 5), 3, Code.ab(4, 7, 6), 14);
        row("a pair over two", vm, 3, "0000010000");
        vm = wide(Code.aa(56, 5), 5, Code.aa(22, 0), 1, Code.aa(40, 3), Code.aa(22, 0), 1, 14);
        row("a LONG on both ways", vm, 7, "3400013456");
        vm = wide(Code.aa(56, 5), 2, 14);
        row("the same way twice", vm, 2, "0000013456");
        vm = wide(Code.aa(56, 5), 5, Code.aa(19, 0), 1, 14, Code.aa(19, 1), 1, Code.aa(40, -3));
        row("a way from behind", vm, 4, "0000013456");
        vm = wide(Code.ab(50, 5, 5), 3, 18, 14);
        row("no way is known not to be gone", vm, 3, "0000013456");
    }

    private static void waysBackToUnit0() {
        PairVm vm = wide(0, Code.ab(130, 5, 5), Code.aa(40, -2));
        row("a FLOAT comes back", vm, 0, "0000003456");
        CHECKS.same("so 130 is wrong", vm.verify(0), 1);
        vm = wide(0, Code.aa(22, 7), 0, Code.aa(40, -3));
        row("a pair over two comes back", vm, 0, "0000010000");
        row("and is there", vm, 3, "0000010340");
        vm = wide(18, Code.aa(40, -1));
        row("the parameters, too", vm, 0, "0000013456");
        row("behind it", vm, 1, "1000013456");
        vm = wide(Code.aa(40, 0));
        row("to itself", vm, 0, "0000013456");
        vm = wide(Code.ab(130, 5, 5), Code.aa(40, -1));
        CHECKS.same("the second time it is wrong", vm.verify(0), 0);
    }

    /** What is lost at the end comes to the start by a chain of ways back. */
    private static void untilNothingChanges() {
        int[] code = new int[40];
        code[0] = Code.aa(40, 38);
        for (int unit = 1; unit < 38; unit++) {
            code[unit] = Code.aa(40, -1);
        }
        code[1] = 14;
        code[38] = Code.aa(40, -1);
        code[39] = 14;
        PairVm vm = wide(code);
        row("a chain of ways back", vm, 1, "0000013456");
        CHECKS.same("not come to", vm.type(0, 39, 0), PairVm.NONE);

        vm = Code.one(0, Code.types(1, 1, 1), 10, Code.ab(1, 8, 9), Code.ab(1, 7, 8),
            Code.ab(1, 6, 7), Code.ab(1, 5, 6), Code.ab(1, 4, 5), Code.ab(1, 3, 4), Code.ab(1, 2, 3),
            Code.ab(1, 1, 2), Code.ab(1, 0, 1), Code.ab(130, 9, 9), Code.aa(40, -10)).machine();
        row("one register a round is lost", vm, 0, "0000000000");
        vm = Code.one(0, Code.types(1, 1, 1), 10, 18, 18 | 1 << 8, 18 | 2 << 8, 18 | 3 << 8,
            18 | 4 << 8, 18 | 5 << 8, 18 | 6 << 8,
            Code.ab(1, 0, 1), Code.ab(1, 1, 2), Code.ab(1, 2, 3), Code.ab(1, 3, 4), Code.ab(1, 4, 5),
            Code.ab(1, 5, 6), Code.ab(1, 6, 7), Code.ab(1, 7, 8), Code.ab(130, 8, 9),
            Code.aa(56, 9), -9, 14).machine();
        row("all but the last", vm, 7, "0000000001");
        row("behind the chain", vm, 18, "0000000021");
        CHECKS.same("the first one is wrong then", vm.verify(0), 7);
    }

    private static void aWrongOneGoesOn() {
        PairVm vm = wide(Code.aa(144, 0), Code.cd(1, 2), Code.ab(129, 1, 0), 14);
        row("what it sets is set", vm, 2, "1000013456");
        row("also behind the next one", vm, 3, "1340013456");
        CHECKS.same("the first one", vm.verify(0), 0);
        vm = wide(Code.ab(56, 0, 0), 3, 14, Code.aa(19, 1), 1, 14);
        row("a wrong branch goes both ways", vm, 3, "0000013456");
        row("and here", vm, 2, "0000013456");
    }

    private static void cannotBeComeTo() {
        PairVm vm = wide(Code.aa(40, 3), Code.ab(130, 5, 5), Code.aa(40, 1), 14);
        row("a way that can't be gone doesn't count", vm, 3, "0000013456");
        row("it has none", vm, 1, "xxxxxxxxxx");
        vm = wide(Code.aa(40, 2), Code.ab(123, 0, 0), 14);
        CHECKS.same("it isn't wrong", vm.verify(0), GOOD);
        vm = wide(14, Code.ab(123, 0, 0), 14);
        CHECKS.same("behind a return", vm.verify(0), GOOD);
        CHECKS.same("its type", vm.type(0, 1, 5), PairVm.NONE);
    }

    private static void firstWrong() {
        PairVm vm = wide(Code.aa(40, 2), Code.ab(123, 0, 2), Code.ab(123, 0, 1), Code.aa(40, -2));
        CHECKS.same("the lowest unit, not the one first come to", vm.verify(0), 1);
    }

    private static void eachMethodOfItsOwn() {
        PairVm vm = Code.methods(3, 0)
            .method(0, Code.types(1, 1, 1), 4, 18, 14)
            .method(0, Code.types(), 4, 14)
            .method(0, Code.types(3), 4, 14).machine();
        CHECKS.same("method 0", row(vm, 0, 1, 4).equals("1111"), true);
        CHECKS.same("method 1", row(vm, 1, 0, 4).equals("0000"), true);
        CHECKS.same("method 2", row(vm, 2, 0, 4).equals("0002"), true);
    }
}
