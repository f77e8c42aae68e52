import java.util.Arrays;

/** Promises 2 to 5: put, seal, load and place. */
public final class FileTest {
    private static final Checks CHECKS = new Checks();
    private static final Class<IllegalArgumentException> ILL = IllegalArgumentException.class;

    public static void main(String[] args) {
        putTakesTheLowestBits();
        putTakes220();
        sealHasRoomFor212();
        sealPutsTheCheck();
        illHeads();
        illMethods();
        unitsInGroupsOfSevenBits();
        everyPrefixEndsTooEarly();
        theCheckIsLookedAtLast();
        checkOfManyBytes();
        anIllFileChangesNothing();
        aFileTakesThePlaceOfTheOneBefore();
        noBytesAfterALoad();
        nothingIsLeftOfFilesBefore();
        CHECKS.end("FileTest");
    }

    private static int[] smallFile() {
        return Code.one(0, Code.types(), 0, 14).toFile();
    }

    /** A file of 220 bytes: 40, 40, 16 and 1 units. */
    private static int[] greatestFile() {
        int[] forty = new int[40];
        forty[39] = 14;
        int[] sixteen = new int[16];
        sixteen[15] = 14;
        return Code.methods(4, 4).method(0, Code.types(), 0, forty).method(0, Code.types(), 10, forty)
            .method(0, Code.types(), 0, sixteen).method(0, Code.types(), 0, 14).toFile();
    }

    private static void ill(String what, int due, int... file) {
        PairVm vm = new PairVm();
        Code.putAll(vm, file);
        CHECKS.thrown(what + " is ill", ILL, vm::load);
        CHECKS.same("the place of " + what, vm.place(), due);
        CHECKS.same("methods of " + what, vm.verify(0), -2);
    }

    /** What stands behind the first eight bytes is ill at a place counted from 8 on. */
    private static void sealIll(String what, int due, int... bytes) {
        PairVm vm = new PairVm();
        Code.putAll(vm, bytes);
        CHECKS.thrown(what + " is ill", ILL, vm::seal);
        CHECKS.same("the place of " + what, vm.place(), due);
    }

    private static void fine(String what, int methods, int... bytes) {
        PairVm vm = new PairVm();
        Code.putAll(vm, bytes);
        CHECKS.same(what, vm.seal(), methods);
        CHECKS.same("no place of " + what, vm.place(), PairVm.NONE);
    }

    private static void putTakesTheLowestBits() {
        PairVm vm = new PairVm();
        int[] file = smallFile();
        for (int i = 0; i < file.length; i++) {
            CHECKS.same("put", vm.put(file[i] + (i % 2 == 0 ? 256 * 77 : -256)), true);
        }
        CHECKS.same("load", vm.load(), 1);
        PairVm other = new PairVm();
        Code.putAll(other, 1, 0, 1, 0, 1, 2, 19, 0);
        other.put(255 - 256);
        other.put(Integer.MIN_VALUE + 255);
        Code.putAll(other, 15, 0);
        CHECKS.thrown("three units where two are told", ILL, other::seal);
        CHECKS.same("its place", other.place(), 18);
    }

    private static void putTakes220() {
        int[] file = greatestFile();
        CHECKS.same("the greatest file", file.length, 220);
        PairVm vm = new PairVm();
        for (int i = 0; i < 220; i++) {
            CHECKS.same("put " + i, vm.put(file[i]), true);
        }
        CHECKS.same("put 220", vm.put(1), false);
        CHECKS.same("put 221", vm.put(1), false);
        CHECKS.same("load", vm.load(), 4);
        CHECKS.same("put behind it", vm.put(1), true);
    }

    private static void sealHasRoomFor212() {
        int[] rest = Arrays.copyOfRange(greatestFile(), 8, 220);
        PairVm vm = new PairVm();
        CHECKS.thrown("no bytes", ILL, vm::load);
        Code.putAll(vm, rest);
        CHECKS.same("212 bytes", vm.seal(), 4);
        CHECKS.same("place", vm.place(), PairVm.NONE);

        Code.putAll(vm, 1, 0, 5);
        CHECKS.thrown("ill", ILL, vm::seal);
        CHECKS.same("place", vm.place(), 10);
        Code.putAll(vm, Arrays.copyOf(greatestFile(), 213));
        CHECKS.thrown("213 bytes", ILL, vm::seal);
        CHECKS.same("the place stays", vm.place(), 10);
        CHECKS.same("the file stays", vm.verify(3), PairVm.NONE);
        CHECKS.thrown("213 bytes again", ILL, vm::seal);
        Code.putAll(vm, Arrays.copyOfRange(greatestFile(), 213, 220));
        CHECKS.same("the bytes stayed", vm.load(), 4);
    }

    private static void sealPutsTheCheck() {
        int[] file = Code.methods(2, 3).method(1, Code.types(1, 2), 5, 15 | 2 << 8)
            .method(0, Code.types(), 0, 0, 14).toFile();
        PairVm vm = new PairVm();
        Code.putAll(vm, file);
        CHECKS.same("load with the check that java.util.zip tells", vm.load(), 2);
        Code.putAll(vm, Arrays.copyOfRange(file, 8, file.length));
        CHECKS.same("seal", vm.seal(), 2);
    }

    private static void illHeads() {
        int[] file = smallFile();
        for (int i = 0; i < 4; i++) {
            int[] other = file.clone();
            other[i] ^= 128;
            ill("head byte " + i, i, other);
            other[i + 1] ^= 1;
            ill("head byte " + i + " and the next", i, other);
        }
        for (int i = 4; i < 8; i++) {
            for (int bit = 0; bit < 8; bit++) {
                int[] other = file.clone();
                other[i] ^= 1 << bit;
                ill("check byte " + i, 4, other);
            }
        }
    }

    private static void illMethods() {
        sealIll("0 methods", 8, 0, 0, 0, 0, 0, 1, 14, 0);
        sealIll("5 methods", 8, 5, 0, 0, 0, 0, 1, 14, 0);
        sealIll("5 fields", 9, 1, 5, 0, 0, 0, 1, 14, 0);
        fine("4 fields", 1, 1, 4, 0, 0, 0, 1, 14, 0);
        fine("returns 4", 1, 1, 0, 4, 0, 2, 1, 16, 0);
        sealIll("returns 5", 10, 1, 0, 5, 0, 2, 1, 16, 0);
        sealIll("4 parameters", 11, 1, 0, 0, 4, 1, 1, 1, 1, 10, 1, 14, 0);
        fine("3 parameters", 1, 1, 0, 0, 3, 4, 4, 4, 6, 1, 14, 0);
        sealIll("parameter 0", 12, 1, 0, 0, 1, 0, 10, 1, 14, 0);
        sealIll("parameter 5", 14, 1, 0, 0, 3, 1, 1, 5, 10, 1, 14, 0);
        fine("10 registers", 1, 1, 0, 0, 0, 10, 1, 14, 0);
        sealIll("11 registers", 12, 1, 0, 0, 0, 11, 1, 14, 0);
        for (int type = 1; type <= 4; type++) {
            int words = type == 2 || type == 4 ? 2 : 1;
            fine("its words", 1, 1, 0, 0, 1, type, words, 1, 14, 0);
            sealIll("a word less", 13, 1, 0, 0, 1, type, words - 1, 1, 14, 0);
            sealIll("a word less of three", 15, 1, 0, 0, 3, 1, type, 4, words + 2, 1, 14, 0);
        }
        sealIll("a byte behind", 16, 1, 0, 0, 0, 0, 1, 14, 0, 0);
        sealIll("a method behind", 16, 1, 0, 0, 0, 0, 1, 14, 0, 0, 0, 0, 1, 14, 0);
        sealIll("a method less", 16, 2, 0, 0, 0, 0, 1, 14, 0);
        sealIll("the second method", 18, 2, 0, 0, 0, 0, 1, 14, 0, 0, 0, 11, 1, 14, 0);
    }

    private static void unitsInGroupsOfSevenBits() {
        sealIll("0 units", 13, 1, 0, 0, 0, 0, 0);
        sealIll("41 units", 13, 1, 0, 0, 0, 0, 41);
        sealIll("127 units", 13, 1, 0, 0, 0, 0, 127);
        fine("1 unit in two", 1, 1, 0, 0, 0, 0, 129, 0, 14, 0);
        int[] forty = new int[7 + 80];
        int[] head = {1, 0, 0, 0, 0, 168, 0};
        System.arraycopy(head, 0, forty, 0, 7);
        forty[7 + 78] = 14;
        fine("40 units in two", 1, forty);
        sealIll("0 units in two", 14, 1, 0, 0, 0, 0, 128, 0, 14, 0);
        sealIll("41 units in two", 14, 1, 0, 0, 0, 0, 169, 0, 14, 0);
        sealIll("129 units", 14, 1, 0, 0, 0, 0, 129, 1, 14, 0);
        sealIll("128 units", 14, 1, 0, 0, 0, 0, 128, 1, 14, 0);
        sealIll("a second one of 127", 14, 1, 0, 0, 0, 0, 129, 127, 14, 0);
        sealIll("a second one of 128", 14, 1, 0, 0, 0, 0, 129, 128, 0, 14, 0);
        sealIll("a second one of 255", 14, 1, 0, 0, 0, 0, 255, 255, 255, 0);
        sealIll("no second one", 14, 1, 0, 0, 0, 0, 129);
        sealIll("no second one, too great as it is", 14, 1, 0, 0, 0, 0, 255);
        sealIll("half a unit", 15, 1, 0, 0, 0, 0, 1, 14);
        fine("in the second method", 2, 2, 0, 0, 0, 0, 129, 0, 14, 0, 0, 0, 0, 129, 0, 14, 0);
    }

    private static void everyPrefixEndsTooEarly() {
        int[] file = Code.methods(2, 1).method(1, Code.types(1, 4, 3), 7, 15 | 3 << 8)
            .method(0, Code.types(), 0, 0, 14).toFile();
        for (int length = 0; length < file.length; length++) {
            ill("prefix " + length, length, Arrays.copyOf(file, length));
        }
        ill("a byte behind", file.length, Arrays.copyOf(file, file.length + 1));
    }

    private static void theCheckIsLookedAtLast() {
        int[] file = smallFile();
        file[7] ^= 1;
        ill("a wrong check", 4, file);
        int[] longer = Arrays.copyOf(file, file.length + 1);
        ill("a wrong check and a byte behind", file.length, longer);
        file[13] = 0;
        ill("a wrong check and no units", 13, file);
        int[] shorter = Arrays.copyOf(smallFile(), 15);
        shorter[4] ^= 1;
        ill("a wrong check and an end too early", 15, shorter);
        int[] unit = smallFile();
        unit[14] ^= 2;
        ill("another unit", 4, unit);
    }

    /** Enough that b goes beyond 65521 often; a never does: 212 bytes of 255 are 54060. */
    private static void checkOfManyBytes() {
        int[] units = new int[40];
        Arrays.fill(units, 0xfffe);
        Code code = Code.methods(2, 4).method(0, Code.types(), 10, units)
            .method(4, Code.types(4, 4, 4), 10, units);
        PairVm vm = new PairVm();
        Code.putAll(vm, code.toFile());
        CHECKS.same("load", vm.load(), 2);
        CHECKS.same("seal", code.sealInto(vm), 2);
    }

    private static void anIllFileChangesNothing() {
        PairVm vm = Code.methods(1, 1).method(1, Code.types(), 1,
            19, 7, 103, 0, 15).machine();
        vm.call(0);
        vm.run(2);
        Code.putAll(vm, 1, 0, 9);
        CHECKS.thrown("seal", ILL, vm::seal);
        CHECKS.same("place", vm.place(), 10);
        CHECKS.same("it runs on", vm.state(), 1);
        CHECKS.same("at", vm.at(0), 4);
        CHECKS.same("the field", vm.field(0), 7);
        int[] wrongCheck = Code.methods(2, 2).method(0, Code.types(), 0, 14)
            .method(0, Code.types(), 0, 14).toFile();
        wrongCheck[5] ^= 4;
        Code.putAll(vm, wrongCheck);
        CHECKS.thrown("load", ILL, vm::load);
        CHECKS.same("place", vm.place(), 4);
        CHECKS.same("no second method", vm.verify(1), -2);
        CHECKS.same("run", vm.run(9), 1);
        CHECKS.same("value", vm.value(), 7);
        CHECKS.thrown("load", ILL, vm::load);
        CHECKS.same("without bytes: at 0", vm.place(), 0);
        CHECKS.same("value stays", vm.value(), 7);
        CHECKS.same("state stays", vm.state(), 2);
    }

    private static void aFileTakesThePlaceOfTheOneBefore() {
        PairVm vm = Code.methods(2, 2).method(1, Code.types(), 1, 19, 7, 103, 1, 15)
            .method(0, Code.types(), 0, 14).machine();
        vm.call(0);
        vm.run(2);
        CHECKS.same("the field", vm.field(1), 7);
        Code next = Code.methods(1, 2).method(1, Code.types(), 1, 96, 1, 15);
        CHECKS.same("seal", next.sealInto(vm), 1);
        CHECKS.same("place", vm.place(), PairVm.NONE);
        CHECKS.same("idle", vm.state(), 0);
        CHECKS.same("calls", vm.calls(), 0);
        CHECKS.same("at", vm.at(0), PairVm.NONE);
        CHECKS.same("the field is 0", vm.field(1), 0);
        CHECKS.same("no second method", vm.verify(1), -2);
        CHECKS.thrown("run", IllegalStateException.class, () -> vm.run(1));
        vm.call(0);
        CHECKS.same("run", vm.run(10), 2);
        CHECKS.same("value", vm.value(), 0);
        CHECKS.same("returned", vm.state(), 2);
        next.sealInto(vm);
        CHECKS.same("idle", vm.state(), 0);
        CHECKS.same("value of an idle one", vm.value(), 0);
        Code.methods(1, 1).method(0, Code.types(), 0, 14).sealInto(vm);
        Code.methods(1, 4).method(0, Code.types(), 0, 14).sealInto(vm);
        for (int k = 0; k < 4; k++) {
            CHECKS.same("field " + k, vm.field(k), 0);
        }
    }

    private static void noBytesAfterALoad() {
        PairVm vm = new PairVm();
        Code.putAll(vm, smallFile());
        CHECKS.same("load", vm.load(), 1);
        CHECKS.thrown("load again", ILL, vm::load);
        CHECKS.same("at 0", vm.place(), 0);
        Code.putAll(vm, 100, 101, 120, 11);
        CHECKS.thrown("ill", ILL, vm::load);
        CHECKS.same("at 3", vm.place(), 3);
        Code.putAll(vm, smallFile());
        CHECKS.same("the bytes were taken", vm.load(), 1);
        CHECKS.same("no place", vm.place(), PairVm.NONE);
        CHECKS.thrown("seal of nothing", ILL, vm::seal);
        CHECKS.same("at 8", vm.place(), 8);
        Code.putAll(vm, smallFile());
        CHECKS.same("the head was taken", vm.load(), 1);
    }

    /** Many files one after another: each is answered as if it were the first one. */
    private static void nothingIsLeftOfFilesBefore() {
        Code[] files = {
            Code.methods(1, 0).method(0, Code.types(2, 4, 2), 6, 14),
            Code.methods(1, 0).method(0, Code.types(), 0, 14),
            Code.methods(1, 0).method(0, Code.types(1), 2, 0, 144, Code.cd(1, 1), 14),
            Code.methods(1, 0).method(0, Code.types(1), 2, 19, 5, 0, 14),
            Code.methods(1, 0).method(0, Code.types(1), 2, 144, Code.cd(1, 0), 14),
            Code.methods(1, 0).method(0, Code.types(1), 2, Code.aa(56, 1), 2, 14),
            Code.methods(1, 0).method(0, Code.types(1), 2, Code.aa(40, 1), 14),
            Code.methods(1, 0).method(0, Code.types(1), 2, Code.ab(113, 1, 1), 0, 1, 14),
            Code.methods(1, 0).method(0, Code.types(1), 2, 200, 0, 0, 14),
            Code.methods(1, 0).method(0, Code.types(1), 2, 0, 0, 0, 14),
            Code.methods(4, 0).method(0, Code.types(), 0, 14).method(0, Code.types(), 0, 0)
                .method(0, Code.types(), 0, 0).method(0, Code.types(), 0, 0),
            Code.methods(1, 4).method(0, Code.types(), 1, 18, 103, 3, 14),
            Code.methods(2, 0).method(0, Code.types(), 0, 14).method(1, Code.types(), 1, 14),
        };
        for (Code before : files) {
            for (Code file : files) {
                PairVm vm = before.machine();
                before.sealInto(vm);
                file.sealInto(vm);
                sameAsNew(vm, file.machine());
            }
        }
    }

    private static void sameAsNew(PairVm vm, PairVm fresh) {
        for (int m = 0; m < 5; m++) {
            CHECKS.same("verify " + m, vm.verify(m), fresh.verify(m));
            for (int unit = 0; unit < 5; unit++) {
                CHECKS.same("type " + m + " " + unit, vm.type(m, unit, 0), fresh.type(m, unit, 0));
                CHECKS.same("type " + m + " " + unit, vm.type(m, unit, 1), fresh.type(m, unit, 1));
            }
        }
        CHECKS.same("called", called(vm), called(fresh));
        CHECKS.same("run", vm.state() == 1 ? vm.run(3) : 0, fresh.state() == 1 ? fresh.run(3) : 0);
        CHECKS.same("state", vm.state(), fresh.state());
        CHECKS.same("calls", vm.calls(), fresh.calls());
        CHECKS.same("at", vm.at(0), fresh.at(0));
    }

    private static int called(PairVm vm) {
        try {
            vm.call(0);
            return 0;
        } catch (IllegalArgumentException e) {
            return 1;
        } catch (IllegalStateException e) {
            return 2;
        }
    }
}
