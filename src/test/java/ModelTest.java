import java.util.ArrayList;
import java.util.List;

/** Files made by lot (always the same ones): PairVm answers as the other machine, Model, does. */
public final class ModelTest {
    private static final Checks CHECKS = new Checks();
    private static final int FILES = 60000;
    private static final int[] OPERATIONS = {0, 1, 1, 4, 4, 18, 19, 22, 22, 40, 45, 47, 49, 50, 51, 52,
        53, 54, 55, 56, 57, 58, 59, 60, 61, 96, 103, 113, 113, 113, 123, 125, 127, 128, 129, 130, 131,
        132, 133, 134, 135, 136, 137, 138, 139, 140, 144, 145, 146, 147, 148, 149, 150, 151, 152, 153,
        154, 155, 156, 157, 158, 159, 166, 167, 168, 169, 171, 172, 173, 174};

    private static long seed = 20261119L;
    private static int fitFiles = 0;
    private static int formedMethods = 0;
    private static int skipped = 0;
    private static final int[] ends = new int[4];

    /** How seldom a mistake is made in the file that is being made: one in so many. */
    private static int care = 1000;

    public static void main(String[] args) {
        for (int i = 0; i < FILES; i++) {
            care = i % 3 == 0 ? 12 : i % 3 == 1 ? 60 : 1000000;
            oneFile(i);
        }
        System.out.println("fit files " + fitFiles + ", formed methods " + formedMethods + ", skipped "
            + skipped + ", returned " + ends[2] + ", stopped " + ends[3] + ", still running " + ends[1]);
        CHECKS.same("many files are fit", fitFiles > FILES / 10, true);
        CHECKS.same("many methods are formed", formedMethods > FILES / 4, true);
        CHECKS.same("many return", ends[2] > FILES / 20, true);
        CHECKS.same("some stop", ends[3] > FILES / 100, true);
        CHECKS.end("ModelTest");
    }

    private static int lot(int n) {
        seed = seed * 6364136223846793005L + 1442695040888963407L;
        return (int) ((seed >>> 33) % n);
    }

    private static boolean slip() {
        return lot(care) == 0;
    }

    private static void oneFile(int number) {
        Model model = new Model(lot(5));
        int count = 1 + lot(3);
        List<Model.Made> heads = new ArrayList<>();
        for (int m = 0; m < count; m++) {
            int[] parameters = new int[lot(4)];
            int words = 0;
            for (int p = 0; p < parameters.length; p++) {
                parameters[p] = 1 + lot(4);
                words += Model.width(parameters[p]);
            }
            int registers = Math.min(10, words + 1 + lot(8));
            heads.add(new Model.Made(lot(5), parameters, registers, new int[0]));
        }
        for (Model.Made head : heads) {
            int[] units = units(head, heads, model.fields.length, 3 + lot(34 / count));
            model.methods.add(new Model.Made(head.returns, head.parameters, head.registers, units));
        }
        compare(number, model);
    }

    // ---- Making code: the types are followed down the code, as if nothing went another way.

    private static int[] units(Model.Made head, List<Model.Made> heads, int fields, int most) {
        List<Integer> units = new ArrayList<>();
        List<Integer> begins = new ArrayList<>();
        List<Integer> branches = new ArrayList<>();
        char[] row = new char[head.registers];
        int word = head.registers - head.words();
        java.util.Arrays.fill(row, '0');
        for (int type : head.parameters) {
            set(row, word, type);
            word += Model.width(type);
        }
        for (int tries = 0; tries < 200 && units.size() < most; tries++) {
            int op = slip() ? lot(256) : OPERATIONS[lot(OPERATIONS.length)];
            int begin = units.size();
            if (!instruction(op, row, head, heads, fields, units)) {
                continue;
            }
            begins.add(begin);
            if (op == 40 || op >= 50 && op <= 61) {
                branches.add(begin);
            }
            if (op == 113 && units.size() > begin) {
                result(row, heads.get(Math.min(units.get(begin + 1), heads.size() - 1)), units, begins);
            }
        }
        leave(head, row, units, begins);
        for (int branch : branches) {
            int target = slip() ? lot(units.size() + 1) : begins.get(lot(begins.size()));
            int by = target - branch;
            if ((units.get(branch) & 255) == 40) {
                units.set(branch, 40 | (by & 255) << 8);
            } else {
                units.set(branch + 1, by & 0xffff);
            }
        }
        int[] all = new int[Math.min(40, units.size())];
        for (int i = 0; i < all.length; i++) {
            all[i] = units.get(i);
        }
        return all;
    }

    private static void set(char[] row, int register, int type) {
        if (register < 0 || register + Model.width(type) > row.length) {
            return;
        }
        for (int r = register; r < register + Model.width(type); r++) {
            if ((row[r] == '3' || row[r] == '5') && r + 1 < row.length) {
                row[r + 1] = '0';
            } else if ((row[r] == '4' || row[r] == '6') && r > 0) {
                row[r - 1] = '0';
            }
        }
        row[register] = type == 1 ? '1' : type == 2 ? '3' : type == 3 ? '2' : '5';
        if (Model.width(type) == 2) {
            row[register + 1] = (char) (row[register] + 1);
        }
    }

    /** A register with a type that is asked for, or -1; now and then any register. */
    private static int find(char[] row, String types) {
        if (slip() || slip()) {
            return lot(row.length + 1);
        }
        int start = lot(row.length);
        for (int i = 0; i < row.length; i++) {
            int r = (start + i) % row.length;
            if (types.indexOf(row[r]) >= 0) {
                return r;
            }
        }
        return -1;
    }

    private static String asked(char type) {
        switch (type) {
            case '1': return "1";
            case '2': return "3";
            case '3': return "2";
            case '4': return "5";
            case 'n': return "12";
            default: return "35";
        }
    }

    private static int told(char type) {
        return type == '1' ? 1 : type == '2' ? 3 : type == '3' ? 2 : 4;
    }

    private static boolean instruction(int op, char[] row, Model.Made head, List<Model.Made> heads,
            int fields, List<Integer> units) {
        int length = Math.max(1, Model.length(op));
        int[] made = new int[length];
        made[0] = op;
        if ((op == 96 || op == 103) && fields == 0 && !slip()) {
            return false;
        }
        for (int i = 1; i < length; i++) {
            made[i] = op == 96 || op == 103 ? slip() ? lot(8) - 2 & 0xffff : lot(Math.max(1, fields))
                : op == 19 || op == 22 ? lot(6) == 0 ? 0 : lot(65536) : 0;
        }
        if (op == 113) {
            return call(row, heads, units);
        }
        if (op == 0) {
            made[0] |= lot(256) << 8;
        }
        int setType = 0;
        int setTo = 0;
        int used = -1;
        for (String operand : Model.operands(op).split(" ")) {
            if (operand.isEmpty()) {
                continue;
            }
            char type = operand.charAt(2);
            boolean sets = operand.charAt(0) == 'A' || operand.charAt(0) == 'S';
            boolean wide = type == 'w' || type == '2' || type == '4';
            int r = sets ? lot(Math.max(1, row.length - (wide ? 1 : 0)) + (slip() ? 1 : 0)) : find(row, asked(type));
            if (r < 0 || sets && wide && row.length < 2) {
                return false;
            }
            if (sets) {
                setTo = r;
                setType = type == 'n' || type == 'w' ? -1 : type - '0';
            } else {
                used = r;
            }
            place(made, operand.charAt(0), r);
        }
        if (setType == -1) {
            setType = used >= 0 && used < row.length && row[used] != '0' ? told(row[used]) : 0;
        }
        if (op == 18) {
            made[0] |= lot(16) << 12;
        }
        for (int unit : made) {
            units.add(unit);
        }
        if (setType > 0) {
            set(row, setTo, setType);
        }
        return true;
    }

    private static void place(int[] made, char name, int register) {
        switch (name) {
            case 'A': case 'V': made[0] |= (register & 15) << 8; break;
            case 'B': made[0] |= (register & 15) << 12; break;
            case 'C': made[1] |= register; break;
            case 'D': made[1] |= register << 8; break;
            default: made[0] |= register << 8; break;
        }
    }

    private static boolean call(char[] row, List<Model.Made> heads, List<Integer> units) {
        int n = slip() ? lot(5) : lot(heads.size());
        Model.Made called = heads.get(Math.min(n, heads.size() - 1));
        if (called.words() > 4 && !slip()) {
            return false;
        }
        int names = 0;
        int word = 0;
        for (int type : called.parameters) {
            int r = find(row, asked((char) ('0' + type)));
            if (r < 0) {
                return false;
            }
            names |= (r & 15) << 4 * word;
            word++;
            if (Model.width(type) == 2) {
                names |= (r + 1 & 15) << 4 * word;
                word++;
            }
        }
        int b = slip() ? lot(16) : word & 15;
        int rest = b < 4 ? lot(65536) & -1 << 4 * b : 0;
        units.add(113 | lot(16) << 8 | b << 12);
        units.add(n);
        units.add((names | rest) & 0xffff);
        return true;
    }

    private static void result(char[] row, Model.Made called, List<Integer> units, List<Integer> begins) {
        if (called.returns == 0 && !slip() || lot(4) == 0) {
            return;
        }
        boolean pair = Model.width(called.returns) == 2;
        if (pair && row.length < 2) {
            return;
        }
        int register = lot(row.length - (pair ? 1 : 0) + (slip() ? 1 : 0));
        if (slip()) {
            begins.add(units.size());
        }
        units.add((pair ? 11 : 10) | register << 8);
        if (called.returns != 0) {
            set(row, register, called.returns);
        }
    }

    private static void leave(Model.Made head, char[] row, List<Integer> units, List<Integer> begins) {
        if (head.returns != 0) {
            int r = find(row, asked((char) ('0' + head.returns)));
            if (r >= 0) {
                begins.add(units.size());
                units.add((Model.width(head.returns) == 2 ? 16 : 15) | r << 8);
                return;
            }
            boolean isLong = head.returns == 2 && head.registers >= 2;
            if (head.returns == 1 || isLong) {
                begins.add(units.size());
                units.add(isLong ? 22 : 19);
                units.add(lot(65536));
                units.add(isLong ? 16 : 15);
                return;
            }
            begins.add(units.size());
            units.add(40);
            return;
        }
        begins.add(units.size());
        units.add(14 | lot(256) << 8);
    }

    // ---- Comparing

    private static void compare(int number, Model model) {
        String file = "file " + number;
        PairVm vm = new PairVm();
        int got = model.toCode().sealInto(vm);
        CHECKS.same(file + " methods", got, model.methods.size());
        model.verify();
        if (model.tooMany) {
            skipped++;
            return;
        }
        for (int m = 0; m < model.methods.size(); m++) {
            Model.Made made = model.methods.get(m);
            formedMethods += made.formed ? 1 : 0;
            CHECKS.same(file + " verify " + m, vm.verify(m), made.verdict);
            compareTypes(file, model, m);
        }
        if (!model.fit()) {
            return;
        }
        fitFiles++;
        for (int i = 0; i < 2; i++) {
            compareCall(file, vm, model);
        }
    }

    /** An object is used for 512 calls at the most, so a new one is made now and then. */
    private static void compareTypes(String file, Model model, int m) {
        Model.Made made = model.methods.get(m);
        PairVm vm = null;
        int asked = 0;
        for (int unit = 0; unit <= made.units.length; unit++) {
            for (int r = 0; r <= made.registers; r++) {
                if (asked % 250 == 0) {
                    vm = model.toCode().machine();
                }
                asked++;
                int got = vm.type(m, unit, r);
                if (got != model.type(m, unit, r)) {
                    CHECKS.same(file + " type " + m + " " + unit + " " + r, got, model.type(m, unit, r));
                }
            }
        }
    }

    private static void compareCall(String file, PairVm vm, Model model) {
        int m = lot(model.methods.size());
        int[] parameters = model.methods.get(m).parameters;
        Object[] arguments = new Object[parameters.length];
        for (int p = 0; p < parameters.length; p++) {
            arguments[p] = argument(vm, parameters[p]);
        }
        vm.call(m);
        model.call(m, arguments);
        for (int i = 0; i < 6 && model.state == 1; i++) {
            int n = i < 3 ? lot(12) : lot(201);
            int due = model.run(n);
            int got = -1;
            Class<?> thrown = null;
            try {
                got = vm.run(n);
            } catch (ArithmeticException | UnsupportedOperationException e) {
                thrown = e.getClass();
            }
            CHECKS.same(file + " run", got, due);
            CHECKS.same(file + " thrown " + thrown, thrown == model.thrown, true);
            compareState(file, vm, model);
        }
        ends[model.state]++;
    }

    private static Object argument(PairVm vm, int type) {
        long whole = lot(3) == 0 ? lot(3) - 1 : (long) lot(1 << 30) * (lot(1 << 30) - (1 << 29)) >> lot(60);
        double real = lot(3) == 0 ? (lot(3) - 1) * 0.0 : whole / (1.0 + lot(1000));
        if (type <= 2) {
            vm.pass(type, whole);
            return type == 1 ? (Object) (int) whole : (Object) whole;
        }
        vm.passReal(type, real);
        return type == 3 ? (Object) (float) real : (Object) real;
    }

    private static void compareState(String file, PairVm vm, Model model) {
        CHECKS.same(file + " state", vm.state(), model.state);
        CHECKS.same(file + " calls", vm.calls(), model.openCalls());
        for (int k = 0; k < 7; k++) {
            CHECKS.same(file + " at " + k, vm.at(k), model.at(k));
        }
        for (int k = 0; k < 5; k++) {
            CHECKS.same(file + " field " + k, vm.field(k), k < model.fields.length ? model.fields[k] : 0);
        }
        Object result = model.state == 2 ? model.result : null;
        long whole = 0;
        double real = 0.0;
        if (result instanceof Integer || result instanceof Long) {
            whole = ((Number) result).longValue();
            real = (double) whole;
        } else if (result != null) {
            real = ((Number) result).doubleValue();
            whole = (long) real;
        }
        CHECKS.same(file + " value", vm.value(), whole);
        CHECKS.sameReal(file + " real", vm.real(), real);
    }
}
