import java.util.ArrayList;
import java.util.Arrays;
import java.util.List;

/** Promises 6 and 7 at their bounds, a sentence of 'VERIFYING' a test. */
public final class VerifyEdgesTest {
    private static final Checks CHECKS = new Checks();
    private static final int GOOD = PairVm.NONE;

    public static void main(String[] args) {
        codeOfOneAndOfFortyUnits();
        theLastInstructionEndsWithTheCode();
        behindABadOneNoInstructionBegins();
        goingOnToABadOneIsRight();
        neverAMethodOfMoreThanFourWords();
        theLastRegistersThereAre();
        resultsRightBehind();
        aCallNeedNotHaveAResult();
        noWayToAResult();
        zeroUnitsFromHere();
        notBehindTheCode();
        whatCannotBeComeToIsLookedAt();
        theFirstOfAllForms();
        formOfAllBeforeTypes();
        fitAreAllThree();
        parametersInTheLastRegisters();
        whatIsWrongGoesOnAllTheSame();
        wrongMovesGiveNone();
        everyTwoWaysThatComeTogether();
        unit0HasTheParametersToo();
        untilNothingChanges();
        onlyWaysThatMayBeGone();
        typeIsThereOrNone();
        typesOfAMethodThatIsNotFit();
        CHECKS.end("VerifyEdgesTest");
    }

    private static int verdict(int... units) {
        return Code.methods(1, 1).method(0, Code.types(), 4, units).machine().verify(0);
    }

    private static int[] nothings(int count, int... last) {
        int[] units = new int[count];
        System.arraycopy(last, 0, units, count - last.length, last.length);
        return units;
    }

    /** The types before a unit, a digit a register; x is NONE. */
    private static String row(PairVm vm, int m, int unit, int registers) {
        StringBuilder text = new StringBuilder();
        for (int r = 0; r < registers; r++) {
            int type = vm.type(m, unit, r);
            text.append(type == PairVm.NONE ? "x" : "" + type);
        }
        return text.toString();
    }

    private static void row(String what, PairVm vm, int unit, String due) {
        String got = row(vm, 0, unit, due.length());
        CHECKS.same(what + ": " + got + " at " + unit + ", due is " + due, got.equals(due), true);
    }

    // ---- FORM

    private static void codeOfOneAndOfFortyUnits() {
        CHECKS.same("one unit", verdict(14), GOOD);
        CHECKS.same("one unit that goes on", verdict(0), 0);
        CHECKS.same("forty", verdict(nothings(40, 14)), GOOD);
        CHECKS.same("forty, the last one goes on", verdict(nothings(40)), 39);
        CHECKS.same("the last one is bad", verdict(nothings(40, 2)), 39);
        int[] across = nothings(40, 14);
        across[0] = Code.aa(40, 39);
        across[38] = Code.aa(40, -38);
        CHECKS.same("from the first to the last, and back", verdict(across), GOOD);
        int[] far = nothings(40, 56, -39 & 0xffff, 14);
        far[37] = 57;
        CHECKS.same("as far as that, and one further", verdict(far), 37);
        far[38] = -37 & 0xffff;
        far[0] = 18;
        CHECKS.same("just to unit 0", verdict(far), GOOD);
    }

    /** "fill the code", "all units of its instruction are there". */
    private static void theLastInstructionEndsWithTheCode() {
        for (int count = 4; count <= 40; count++) {
            int[] two = nothings(count, 19, 0);
            two[count - 1] = 200;
            CHECKS.same("two of two units", verdict(two), count - 2);
            int[] branch = nothings(count, 56, -(count - 2) & 0xffff);
            CHECKS.same("a branch that goes on behind", verdict(branch), count - 2);
            CHECKS.same("one of two units", verdict(nothings(count, 19)), count - 1);
            CHECKS.same("one of three", verdict(nothings(count, 113)), count - 1);
            CHECKS.same("two of three", verdict(nothings(count, 113, 0)), count - 2);
            CHECKS.same("three of three, but nothing behind", verdict(nothings(count, 113, 0, 0)), count - 3);
            CHECKS.same("three of three", verdict(nothings(count, 113, 0, 0, 14)), GOOD);
        }
    }

    /** Nor does one begin in it: all that goes there goes on wrongly. */
    private static void behindABadOneNoInstructionBegins() {
        for (int to = 3; to <= 7; to++) {
            boolean bad = to == 3;
            CHECKS.same("going on to " + to, verdict(56, to, 14, 255, 14, 14, 0, 14), bad ? 3 : 0);
            CHECKS.same("by 40", verdict(Code.aa(40, to), 14, 14, 2, 14, 14, 0, 14), bad ? 3 : 0);
        }
        CHECKS.same("what stands behind isn't looked at", verdict(0, 255, 255, 255), 1);
        CHECKS.same("nor is its form", verdict(0, 3, Code.aa(19, 99), 0, 14), 1);
        CHECKS.same("type has none there", Code.one(0, Code.types(), 1, 14, 255, 14).machine()
            .type(0, 2, 0), PairVm.NONE);
    }

    /** "what goes on just there is right in that": to where the bad one begins. */
    private static void goingOnToABadOneIsRight() {
        int[] bad = {2, 3, 5, 9, 12, 13, 17, 20, 39, 41, 44, 46, 48, 62, 95, 97, 102, 104, 112, 114, 122, 124,
            126, 141, 143, 160, 165, 170, 175, 255};
        for (int operation : bad) {
            CHECKS.same("right behind: " + operation, verdict(0, 0, operation), 2);
            CHECKS.same("by 40", verdict(Code.aa(40, 2), 14, operation), 2);
            CHECKS.same("by a branch", verdict(18, 56, 3, 14, operation), 4);
            CHECKS.same("behind a call", verdict(113, 0, 0, operation), 3);
        }
        int[] longer = {19, 22, 45, 50, 56, 96, 103, 113, 144, 155, 166, 174};
        for (int operation : longer) {
            CHECKS.same("to one whose units aren't there", verdict(Code.aa(40, 2), 14, operation), 2);
        }
    }

    /** "(so never a method with more than 4)". */
    private static void neverAMethodOfMoreThanFourWords() {
        for (int[] types : Rows.ofTypes()) {
            int words = Rows.words(types);
            for (int b = 0; b < 16; b++) {
                PairVm vm = Code.methods(2, 0)
                    .method(0, Code.types(), 10, 0, Code.ab(113, 0, b), 1, 0x3210, 14)
                    .method(0, types, 10, 14).machine();
                boolean formed = b == words && words <= 4;
                String what = b + " words for " + Arrays.toString(types);
                CHECKS.same(what, vm.type(0, 0, 0), formed ? 0 : PairVm.NONE);
                CHECKS.same(what, vm.verify(0), formed && words == 0 ? GOOD : 1);
                CHECKS.same("the method itself is fit", vm.verify(1), GOOD);
            }
        }
    }

    /** "all registers that it names, of pairs also the second ones, are there". */
    private static void theLastRegistersThereAre() {
        for (int registers = 2; registers <= 10; registers++) {
            int last = registers - 1;
            int[][] there = {{Code.ab(18, last, 0)}, {Code.aa(19, last), 0}, {Code.aa(22, last - 1), 0},
                {Code.aa(96, last), 0}};
            int[][] beyond = {{Code.ab(18, registers, 0)}, {Code.aa(19, registers), 0},
                {Code.aa(22, last), 0}, {Code.aa(96, registers), 0}};
            for (int i = 0; i < there.length; i++) {
                CHECKS.same("there " + i, inRegisters(registers, there[i]).verify(0), GOOD);
                CHECKS.same("beyond " + i, inRegisters(registers, beyond[i]).verify(0), 0);
            }
            PairVm vm = Code.one(0, Code.types(2), registers, Code.ab(4, 0, last - 1),
                Code.ab(125, last - 1, 0), 14).machine();
            CHECKS.same("the last pair", vm.verify(0), GOOD);
            vm = Code.one(0, Code.types(2), registers, Code.ab(4, 0, last), 14).machine();
            CHECKS.same("one further", vm.type(0, 0, 0), PairVm.NONE);
        }
        CHECKS.same("of none at all", Code.one(0, Code.types(), 0, 18, 14).machine().verify(0), 0);
        CHECKS.same("a pair of one", Code.one(0, Code.types(), 1, 22, 0, 14).machine().verify(0), 0);
    }

    private static PairVm inRegisters(int registers, int... units) {
        return Code.methods(1, 1).method(0, Code.types(), registers, Code.join(units, Code.u(14))).machine();
    }

    /** "a RESULT stands right behind a 113 .. (else this RESULT isn't so)". */
    private static void resultsRightBehind() {
        int[][] codes = {
            {10, 14}, {0, 10, 14}, {14, 10, 14}, {18, 10, 14}, {Code.aa(40, 2), 10, 14},
            {113, 1, 0, 10, 14}, {113, 1, 0, 0, 10, 14}, {113, 1, 0, 10, 10, 14}, {113, 2, 0, 10, 14},
            {113, 1, 0, 11, 14}, {113, 2, 0, 11, 14}, {113, 3, 0, 10, 14}, {113, 3, 0, 11, 14},
            {113, 0, 0, 10, 14}, {113, 1, 0, Code.aa(10, 2), 14}, {113, 2, 0, Code.aa(11, 1), 14}};
        // Where two are wrong, the one that goes on to the RESULT stands first.
        int[] due = {0, 0, 1, 0, 1, GOOD, 3, 3, 3, 3, GOOD, 3, 3, 3, 3, 3};
        for (int i = 0; i < codes.length; i++) {
            PairVm vm = Code.methods(4, 0).method(0, Code.types(), 2, codes[i])
                .method(i % 2 == 0 ? 3 : 1, Code.types(), 1, 40).method(i % 2 == 0 ? 2 : 4, Code.types(), 2, 40)
                .method(0, Code.types(), 0, 14).machine();
            CHECKS.same("code " + i + ", " + Arrays.toString(codes[i]), vm.verify(0), due[i]);
        }
    }

    private static void aCallNeedNotHaveAResult() {
        for (int returns = 0; returns <= 4; returns++) {
            PairVm vm = Code.methods(2, 0).method(0, Code.types(), 2, 113, 1, 0, 113, 1, 0, 14)
                .method(returns, Code.types(), 0, 40).machine();
            CHECKS.same("of one that returns " + returns, vm.verify(0), GOOD);
        }
    }

    /** "an instruction that is no RESULT (but the one behind a 113)": only the 113 itself goes there. */
    private static void noWayToAResult() {
        int[][] codes = {
            {Code.aa(40, 4), 113, 1, 0, 10, 14},
            {18, 56, 5, 113, 1, 0, 10, 14},
            {18, 50, 5, 113, 1, 0, 10, 14},
            {113, 1, 0, 10, Code.aa(40, -1)},
            {113, 1, 0, 10, 56, -1 & 0xffff, 14},
            {Code.aa(40, 1), 113, 1, 0, 10, Code.aa(40, -4)}};
        int[] due = {0, 1, 1, 4, 4, GOOD};
        for (int i = 0; i < codes.length; i++) {
            PairVm vm = Code.methods(2, 0).method(0, Code.types(), 1, codes[i])
                .method(1, Code.types(), 1, 18, 15).machine();
            CHECKS.same("code " + i, vm.verify(0), due[i]);
        }
    }

    /** "(0 units from here, too; of a branch both ways)". */
    private static void zeroUnitsFromHere() {
        CHECKS.same("40 by 0", verdict(40), GOOD);
        for (int operation = 50; operation <= 61; operation++) {
            CHECKS.same(operation + " by 0", verdict(18, operation, 0, 14), GOOD);
            CHECKS.same(operation + " by 0, but nothing behind", verdict(18, operation, 0), 1);
            CHECKS.same(operation + " by 1, into itself", verdict(18, operation, 1, 14), 1);
            CHECKS.same(operation + " by 2, to what is behind", verdict(18, operation, 2, 14), GOOD);
            CHECKS.same(operation + " by 3, behind the code", verdict(18, operation, 3, 14), 1);
            CHECKS.same(operation + " by -1", verdict(18, operation, -1 & 0xffff, 14), GOOD);
            CHECKS.same(operation + " by -2", verdict(18, operation, -2 & 0xffff, 14), 1);
        }
    }

    private static void notBehindTheCode() {
        int[] ones = {0, 18, Code.ab(123, 0, 0), Code.ab(4, 0, 0)};
        for (int unit : ones) {
            CHECKS.same("a last " + (unit & 255), verdict(0, unit), 1);
        }
        CHECKS.same("a last 40", verdict(0, Code.aa(40, -1)), GOOD);
        CHECKS.same("a last 40 by 1", verdict(0, Code.aa(40, 1)), 1);
        CHECKS.same("a last return", verdict(0, 14), GOOD);
        PairVm vm = Code.methods(2, 0).method(0, Code.types(), 1, 113, 1, 0, 10)
            .method(1, Code.types(), 1, 18, 15).machine();
        CHECKS.same("a last RESULT", vm.verify(0), 3);
    }

    /** "(All instructions are looked at, also those that can't be come to ..)". */
    private static void whatCannotBeComeToIsLookedAt() {
        int[][] bad = {{255}, {Code.aa(19, 4), 0, 14}, {Code.aa(22, 3), 0, 14}, {96, 1, 14}, {113, 1, 0, 14},
            {10, 14}, {15}, {0}, {Code.aa(40, 1)}, {56, -2 & 0xffff, 14}, {Code.ab(113, 0, 1), 0, 0, 14}};
        for (int[] units : bad) {
            CHECKS.same("behind a return: " + Arrays.toString(units), verdict(Code.join(Code.u(14), units)), 1);
        }
        CHECKS.same("types aren't", verdict(14, 144, 0, Code.ab(125, 0, 1), 14), GOOD);
    }

    private static void theFirstOfAllForms() {
        for (int first = 0; first < 20; first++) {
            for (int second = first + 1; second < 20; second++) {
                int[] units = nothings(21, 14);
                units[second] = Code.ab(18, 4, 0);
                units[first] = Code.ab(123, 9, 9);
                CHECKS.same("the first one", verdict(units), first);
            }
        }
    }

    /** "that isn't of the right form (looked at in all first); if all are, .. the first .. wrong". */
    private static void formOfAllBeforeTypes() {
        CHECKS.same("wrong types ahead", verdict(Code.ab(123, 0, 1), 0, Code.ab(123, 0, 4), 14), 2);
        CHECKS.same("wrong types twice", verdict(0, Code.ab(123, 0, 1), Code.ab(123, 0, 1), 14), 1);
        PairVm vm = Code.methods(2, 0).method(0, Code.types(), 2, Code.ab(123, 0, 1), 14)
            .method(0, Code.types(), 0, 255).machine();
        CHECKS.same("another method's form is its own", vm.verify(0), 0);
        CHECKS.same("and so are its types", vm.verify(1), 0);
    }

    private static void fitAreAllThree() {
        PairVm vm = Code.methods(3, 0).method(0, Code.types(), 0, 14).method(0, Code.types(), 1, 15)
            .method(0, Code.types(), 1, Code.ab(123, 0, 0), 14).machine();
        int[] due = {GOOD, 0, 0, -2, -2};
        for (int m = 0; m < due.length; m++) {
            CHECKS.same("method " + m, vm.verify(m), due[m]);
        }
        CHECKS.same("method -1", vm.verify(-1), -2);
    }

    // ---- TYPES

    /** "At unit 0 the parameters are in the last registers, in order; the others have none." */
    private static void parametersInTheLastRegisters() {
        String[] told = {"", "1", "34", "2", "56"};
        for (int[] types : Rows.ofTypes()) {
            int words = Rows.words(types);
            for (int registers = words; registers <= 10; registers++) {
                StringBuilder due = new StringBuilder("0".repeat(registers - words));
                for (int type : types) {
                    due.append(told[type]);
                }
                row(Arrays.toString(types), Code.one(0, types, registers, 14).machine(), 0, due + "x");
            }
        }
    }

    /** "(An instruction that is wrong goes on all the same.)", and sets what it sets, no more. */
    private static void whatIsWrongGoesOnAllTheSame() {
        PairVm vm = Code.methods(1, 1).method(0, Code.types(3, 2), 4, Code.aa(103, 0), 0, Code.aa(103, 1), 0,
            Code.aa(103, 2), 0, Code.aa(103, 3), 0, 14).machine();
        row("a wrong 103 sets nothing", vm, 8, "0234");
        CHECKS.same("the first is wrong", vm.verify(0), 0);
        for (int operation = 50; operation <= 61; operation++) {
            int unit = operation < 56 ? Code.ab(operation, 1, 1) : Code.aa(operation, 1);
            vm = Code.one(0, Code.types(3, 2), 4, unit, 3, 14, 0, 14).machine();
            row("a wrong " + operation + " goes on behind", vm, 2, "0234");
            row("and where it branches to", vm, 3, "0234");
            CHECKS.same("it is wrong", vm.verify(0), 0);
        }
        vm = Code.methods(2, 0).method(0, Code.types(3, 2), 4, Code.ab(113, 0, 1), 1, 1, Code.aa(11, 0), 14)
            .method(2, Code.types(1), 2, 22, 0, 16).machine();
        row("a wrong 113 sets nothing", vm, 3, "0234");
        row("its RESULT does", vm, 4, "3434");
        CHECKS.same("the 113 is wrong", vm.verify(0), 0);
        vm = Code.methods(2, 0).method(0, Code.types(3, 2), 4, Code.ab(113, 0, 1), 1, 1, Code.aa(11, 1), 14)
            .method(4, Code.types(1), 2, Code.ab(131, 0, 1), 16).machine();
        row("its RESULT over a FLOAT and a pair", vm, 4, "0560");
    }

    /** "1 and 4: those of B if it is as it must be, else none (half a pair, too)". */
    private static void wrongMovesGiveNone() {
        // Registers: none, INT, FLOAT, LONG, DOUBLE.
        for (int b = 0; b <= 6; b++) {
            PairVm vm = Code.one(0, Code.types(1, 3, 2), 7, Code.ab(18, 0, 1), Code.ab(1, 1, b), 14).machine();
            String from = "1001234";
            char type = from.charAt(b) == '1' || from.charAt(b) == '2' ? from.charAt(b) : '0';
            row("1 of " + b, vm, 2, "1" + type + "01234");
            CHECKS.same("is right", vm.verify(0), type == '0' ? 1 : GOOD);
        }
        for (int b = 0; b <= 5; b++) {
            PairVm vm = Code.one(0, Code.types(2, 4), 7, Code.ab(18, 2, 1), Code.ab(4, 0, b), 14).machine();
            String pair = "0013456".substring(b, b + 2);
            boolean right = pair.equals("34") || pair.equals("56");
            row("4 of " + b, vm, 2, (right ? pair : "00") + "13456");
            CHECKS.same("is right", vm.verify(0), right ? GOOD : 1);
        }
        PairVm vm = Code.one(0, Code.types(2, 4), 4, Code.ab(4, 1, 1), 14).machine();
        row("a pair between two, to itself", vm, 1, "0000");
        vm = Code.one(0, Code.types(2, 4), 4, Code.ab(1, 1, 1), 14).machine();
        row("a second half to itself", vm, 1, "0056");
    }

    /** "a register has the type that it has on all of them, or none": each two of many settings. */
    private static void everyTwoWaysThatComeTogether() {
        List<int[]> settings = settings();
        int[][] types = {{1, 3, 2}, {2, 4}, {1, 2, 1}};
        for (int[] parameters : types) {
            for (int[] one : settings) {
                for (int[] other : settings) {
                    twoWays(parameters, one, other);
                }
            }
        }
    }

    /** Rows of two units that set a register or a pair, by all types that may be. */
    private static List<int[]> settings() {
        List<int[]> settings = new ArrayList<>();
        settings.add(Code.u(0, 0));
        for (int r = 0; r < 6; r++) {
            settings.add(Code.u(Code.aa(19, r), 0));
            settings.add(Code.u(Code.ab(127, r, 0), 0));
            if (r < 5) {
                settings.add(Code.u(Code.aa(22, r), 0));
                settings.add(Code.u(Code.ab(128, r, 0), 0));
                settings.add(Code.u(Code.ab(4, r, 4), 0));
                settings.add(Code.u(Code.ab(4, r, 2), Code.ab(1, r, 2)));
            }
        }
        return settings;
    }

    private static void twoWays(int[] parameters, int[] one, int[] other) {
        Model model = new Model(0);
        int[] units = Code.join(Code.u(56 | 5 << 8, 5), one, Code.u(Code.aa(40, 3)), other, Code.u(0, 14));
        model.methods.add(new Model.Made(0, parameters, 6, units));
        model.verify();
        PairVm vm = model.toCode().machine();
        String what = Arrays.toString(parameters) + " " + Arrays.toString(units);
        CHECKS.same(what, vm.verify(0), model.methods.get(0).verdict);
        for (int unit = 7; unit <= 8; unit++) {
            for (int r = 0; r < 6; r++) {
                CHECKS.same(what + " type " + unit + " " + r, vm.type(0, unit, r), model.type(0, unit, r));
            }
        }
    }

    /** "(at unit 0 the parameters, too)": a way back to it doesn't bring more than they are. */
    private static void unit0HasTheParametersToo() {
        PairVm vm = Code.one(0, Code.types(1), 3, 18, Code.aa(40, -1)).machine();
        row("what comes back with more", vm, 0, "001");
        vm = Code.one(0, Code.types(1), 3, Code.ab(130, 2, 2), Code.aa(40, -1)).machine();
        row("with another type", vm, 0, "000");
        CHECKS.same("which is wrong the second time", vm.verify(0), 0);
        vm = Code.one(0, Code.types(2), 3, Code.aa(19, 2), 0, Code.aa(40, -2)).machine();
        row("with half a pair", vm, 0, "000");
        vm = Code.one(0, Code.types(2), 3, Code.ab(4, 1, 1), Code.aa(40, -1)).machine();
        row("with just those", vm, 0, "034");
        CHECKS.same("which is right", vm.verify(0), GOOD);
        vm = Code.one(0, Code.types(2), 4, Code.ab(4, 1, 2), Code.aa(40, -1)).machine();
        row("with the pair in another place", vm, 0, "0000");
        vm = Code.one(0, Code.types(1), 1, 56, 0, 14).machine();
        row("by a branch to itself", vm, 0, "1");
    }

    /** "This is gone on with until nothing changes": however many rounds that takes. */
    private static void untilNothingChanges() {
        oneRegisterIsLostEachRound();
        for (int length = 2; length <= 39; length++) {
            chainOfWaysBack(length);
        }
    }

    /** Register 9 becomes a FLOAT at the end, so that in each round the next one loses its type. */
    private static void oneRegisterIsLostEachRound() {
        int[] all = nothings(31, 14);
        for (int r = 0; r < 9; r++) {
            all[r] = Code.ab(18, r, 0);
            all[9 + r] = Code.ab(1, r, r + 1);
        }
        all[18] = Code.ab(130, 9, 0);
        all[19] = Code.aa(56, 0);
        all[20] = -10 & 0xffff;
        PairVm vm = Code.one(0, Code.types(1), 10, all).machine();
        row("all are lost", vm, 9, "0000000000");
        row("ahead of it none is", vm, 8, "1111111101");
        CHECKS.same("the first that is wrong", vm.verify(0), 9);
    }

    /** From unit 0 to the last of them, and from each to the one before. */
    private static void chainOfWaysBack(int length) {
        int[] back = new int[length + 1];
        Arrays.fill(back, Code.aa(40, -1));
        back[0] = Code.aa(40, length - 1);
        back[1] = length == 2 ? 40 : 14;
        back[length] = 14;
        PairVm vm = Code.one(0, Code.types(1), 1, back).machine();
        row("a chain of " + length + " ways back", vm, 1, "1");
        CHECKS.same("is fit", vm.verify(0), GOOD);
    }

    private static void onlyWaysThatMayBeGone() {
        PairVm vm = Code.one(0, Code.types(1), 2, Code.aa(40, 3), 18, Code.ab(130, 1, 1), 14).machine();
        row("what is jumped over doesn't come to it", vm, 3, "01");
        row("nor is it come to", vm, 1, "xx");
        vm = Code.one(0, Code.types(1), 2, 18, Code.ab(50, 0, 0), 4, Code.ab(130, 1, 1), 14, 14).machine();
        row("a branch goes both ways, whatever it compares", vm, 5, "11");
        row("so this is come to", vm, 4, "12");
        vm = Code.one(0, Code.types(1), 2, 14, Code.ab(130, 1, 1), Code.aa(40, -2)).machine();
        row("nor does a way back from there", vm, 0, "01");
        CHECKS.same("fit", vm.verify(0), GOOD);
    }

    /** "NONE: there is no such method or register, .. no instruction begins there, or ..". */
    private static void typeIsThereOrNone() {
        int[] begins = {0, 1, 3, 6, 7};
        PairVm vm = Code.methods(4, 0)
            .method(0, Code.types(1), 10, 0, 19, 5, 113, 3, 0, 0, 14)
            .method(0, Code.types(), 0, 14).method(0, Code.types(), 1, 255).method(0, Code.types(), 1, 14)
            .machine();
        int[] units = {Integer.MIN_VALUE, -1, 0, 1, 2, 3, 4, 5, 6, 7, 8, 39, 40, 41, Integer.MAX_VALUE};
        for (int unit : units) {
            boolean there = Arrays.binarySearch(begins, unit) >= 0;
            CHECKS.same("unit " + unit, vm.type(0, unit, 9), there ? 1 : PairVm.NONE);
            CHECKS.same("unit " + unit, vm.type(0, unit, 1), there ? 0 : PairVm.NONE);
        }
        int[] registers = {Integer.MIN_VALUE, -1, 0, 9, 10, 11, 15, 16, Integer.MAX_VALUE};
        for (int r : registers) {
            CHECKS.same("register " + r, vm.type(0, 0, r), r == 9 ? 1 : r == 0 ? 0 : PairVm.NONE);
            CHECKS.same("register " + r + " of none", vm.type(1, 0, r), PairVm.NONE);
            CHECKS.same("register " + r + " of another form", vm.type(2, 0, r), PairVm.NONE);
            CHECKS.same("register " + r + " of one", vm.type(3, 0, r), r == 0 ? 0 : PairVm.NONE);
        }
        int[] methods = {Integer.MIN_VALUE, -1, 4, 5, Integer.MAX_VALUE};
        for (int m : methods) {
            CHECKS.same("method " + m, vm.type(m, 0, 0), PairVm.NONE);
        }
    }

    /** Its form is as said, so it has types. */
    private static void typesOfAMethodThatIsNotFit() {
        PairVm vm = Code.methods(2, 0).method(0, Code.types(1), 2, Code.ab(123, 1, 0), 14)
            .method(0, Code.types(), 1, 255).machine();
        CHECKS.same("not fit", vm.verify(0), 0);
        row("yet it has types", vm, 0, "01");
        row("behind it, too", vm, 1, "01");
        CHECKS.same("this one has none", vm.type(1, 0, 0), PairVm.NONE);
    }
}
