/** What an object answers, told as a text; it changes nothing, and takes some fifty calls. */
final class Seen {
    private Seen() {
    }

    static String of(PairVm vm) {
        StringBuilder text = new StringBuilder();
        text.append("place ").append(vm.place()).append(rest(vm));
        return text.toString();
    }

    /** All but place(). */
    static String rest(PairVm vm) {
        StringBuilder text = new StringBuilder();
        text.append(" state ").append(vm.state()).append(" value ").append(vm.value());
        text.append(" real ").append(Double.doubleToRawLongBits(vm.real()));
        text.append(" calls ").append(vm.calls()).append(" at");
        for (int k = -1; k <= 6; k++) {
            text.append(' ').append(vm.at(k));
        }
        text.append(" fields");
        for (int k = -1; k <= 4; k++) {
            text.append(' ').append(vm.field(k));
        }
        text.append(" verified");
        for (int m = -1; m <= 4; m++) {
            text.append(' ').append(vm.verify(m));
        }
        text.append(" types");
        for (int m = 0; m < 4; m++) {
            for (int unit = 0; unit < 2; unit++) {
                text.append(' ').append(vm.type(m, unit, 0)).append(' ').append(vm.type(m, unit, 1));
            }
        }
        return text.toString();
    }

    /** What a call answers, or which exception it throws. */
    static String load(PairVm vm) {
        try {
            return "load " + vm.load();
        } catch (RuntimeException e) {
            return "load threw " + e.getClass();
        }
    }

    static String seal(PairVm vm) {
        try {
            return "seal " + vm.seal();
        } catch (RuntimeException e) {
            return "seal threw " + e.getClass();
        }
    }

    static String call(PairVm vm, int m) {
        try {
            vm.call(m);
            return "called";
        } catch (RuntimeException e) {
            return "call threw " + e.getClass();
        }
    }

    static String run(PairVm vm, int n) {
        try {
            return "run " + vm.run(n);
        } catch (RuntimeException e) {
            return "run threw " + e.getClass();
        }
    }
}
