import java.util.Arrays;

/**
 * A machine with registers, wide ones in pairs: a file of bytes is read, its methods' code is
 * verified by what types its registers have wherever it may come, and what was verified is run.
 */
public final class PairVm {
    public static final int NONE = -1;

    private static final int NO_METHOD = -2;

    private static final int MOST_BYTES = 220;
    private static final int HEAD_BYTES = 8;
    private static final int CHECK_PLACE = 4;
    private static final int MOST_METHODS = 4;
    private static final int MOST_FIELDS = 4;
    private static final int MOST_PARAMETERS = 3;
    private static final int MOST_REGISTERS = 10;
    private static final int MOST_UNITS = 40;
    private static final int MOST_NAMED = 4;
    private static final int MOST_CALLS = 6;
    private static final int MOST_TO_RUN = 200;

    /** Far above what can be needed: a round that isn't the last reaches a unit or loses a type. */
    private static final int MOST_ROUNDS = 1000;

    /** 2 to the 60. */
    private static final double GREATEST = 1152921504606846976.0;

    // The types of registers; of a pair's second register the type is one more.
    private static final int NO_TYPE = 0;
    private static final int INT = 1;
    private static final int FLOAT = 2;
    private static final int LONG = 3;
    private static final int LONG_SECOND = 4;
    private static final int DOUBLE = 5;
    private static final int DOUBLE_SECOND = 6;
    // What an operation asks for that takes either type of that width.
    private static final int ONE_REGISTER = 7;
    private static final int ONE_PAIR = 8;

    // What the machine is at, as state() tells it.
    private static final int IDLE = 0;
    private static final int RUNS = 1;
    private static final int RETURNED = 2;
    private static final int STOPPED = 3;

    // What stopped the machine.
    private static final int NO_TROUBLE = 0;
    private static final int DIVISION = 1;
    private static final int TOO_MANY_CALLS = 2;

    // What may refuse a call.
    private static final int NO_REFUSAL = 0;
    private static final int UNSUITED = 1;
    private static final int UNFIT = 2;

    private final FileBytes file = new FileBytes();
    private final Arguments arguments = new Arguments();
    private final Machine machine = new Machine();
    private Program program = new Program();
    /** Takes the next file, so that an ill one leaves the program as it is. */
    private Program spare = new Program();
    private int illPlace = NONE;

    public PairVm() {
    }

    public boolean put(int b) {
        return file.append(b);
    }

    public int seal() throws IllegalArgumentException {
        if (!file.putHead()) {
            throw new IllegalArgumentException("there are more than 212 bytes");
        }
        return takeFile();
    }

    public int load() throws IllegalArgumentException {
        return takeFile();
    }

    public int place() {
        return illPlace;
    }

    public int verify(int m) {
        Method method = program.methodAt(m);
        return method == null ? NO_METHOD : method.verdict;
    }

    public int type(int m, int unit, int register) {
        Method method = program.methodAt(m);
        return method == null ? NONE : method.typeBefore(unit, register);
    }

    public boolean pass(int type, long v) {
        if (type == 1) {
            return arguments.add(INT, (int) v, 0.0);
        }
        return type == 2 && arguments.add(LONG, v, 0.0);
    }

    public boolean passReal(int type, double v) {
        if (!(v >= -GREATEST && v <= GREATEST)) {
            return false;
        }
        if (type == 3) {
            return arguments.add(FLOAT, 0L, (float) v);
        }
        return type == 4 && arguments.add(DOUBLE, 0L, v);
    }

    public void call(int m) throws IllegalArgumentException, IllegalStateException {
        int refusal = beginCall(m);
        arguments.clear();
        if (refusal == UNSUITED) {
            throw new IllegalArgumentException("no such method, or other parameters");
        }
        if (refusal == UNFIT) {
            throw new IllegalStateException("some method isn't fit");
        }
    }

    public int run(int n) throws IllegalArgumentException, IllegalStateException,
            ArithmeticException, UnsupportedOperationException {
        if (n < 0 || n > MOST_TO_RUN) {
            throw new IllegalArgumentException("n isn't 0 .. 200");
        }
        if (machine.condition != RUNS) {
            throw new IllegalStateException("the machine doesn't run");
        }
        int done = machine.advance(program, n);
        if (machine.trouble == DIVISION) {
            throw new ArithmeticException("a division by 0");
        }
        if (machine.trouble == TOO_MANY_CALLS) {
            throw new UnsupportedOperationException("a seventh call");
        }
        return done;
    }

    public int state() {
        return machine.condition;
    }

    public long value() {
        return isReal(machine.returnedType()) ? (long) machine.realResult : machine.wholeResult();
    }

    public double real() {
        return isReal(machine.returnedType()) ? machine.realResult : (double) machine.wholeResult();
    }

    public int calls() {
        return machine.condition == RUNS ? machine.open : 0;
    }

    public int at(int k) {
        return machine.unitOf(k);
    }

    public int field(int k) {
        return program.fieldAt(k);
    }

    private int takeFile() throws IllegalArgumentException {
        illPlace = spare.readFrom(file);
        file.clear();
        if (illPlace != NONE) {
            throw new IllegalArgumentException("the file is ill");
        }
        Program before = program;
        program = spare;
        spare = before;
        program.judge();
        machine.rest();
        return program.methodCount;
    }

    /** Begins the call of a method, or tells what refuses it. */
    private int beginCall(int m) {
        Method method = program.methodAt(m);
        if (method == null || !arguments.suit(method)) {
            return UNSUITED;
        }
        if (!program.fit) {
            return UNFIT;
        }
        machine.begin(method, arguments);
        return NO_REFUSAL;
    }

    private static boolean isReal(int type) {
        return type == FLOAT || type == DOUBLE;
    }

    private static int widthOf(int type) {
        return type == LONG || type == DOUBLE || type == ONE_PAIR ? 2 : 1;
    }

    /** The bytes that were put, and the reading of them as a file. */
    private static final class FileBytes {
        private final int[] bytes = new int[MOST_BYTES];
        private int length = 0;
        private int next = 0;
        private int fault = NONE;

        boolean append(int b) {
            if (length < 0 || length >= bytes.length) {
                return false;
            }
            bytes[length] = b & 255;
            length++;
            return true;
        }

        void clear() {
            length = 0;
        }

        /** Puts the first eight bytes before those that are there; false if they have no room. */
        boolean putHead() {
            if (length < 0 || length > MOST_BYTES - HEAD_BYTES) {
                return false;
            }
            System.arraycopy(bytes, 0, bytes, HEAD_BYTES, length);
            length += HEAD_BYTES;
            bytes[0] = 100;
            bytes[1] = 101;
            bytes[2] = 120;
            bytes[3] = 10;
            long check = dueCheck();
            for (int i = 0; i < 4; i++) {
                bytes[CHECK_PLACE + i] = (int) (check >> (8 * i)) & 255;
            }
            return true;
        }

        /** Takes all that stands before the number of methods; the check isn't looked at yet. */
        void takeHead() {
            next = 0;
            fault = NONE;
            take(100, 100);
            take(101, 101);
            take(120, 120);
            take(10, 10);
            for (int i = 0; i < 4; i++) {
                take(0, 255);
            }
        }

        /** The next byte; low if it isn't low .. high, or isn't there: that is the file's fault. */
        int take(int low, int high) {
            if (fault != NONE) {
                return low;
            }
            int b = next >= 0 && next < length && next < bytes.length ? bytes[next] : NONE;
            if (b < low || b > high) {
                fault = next;
                return low;
            }
            next++;
            return b;
        }

        int takeUnitCount() {
            int count = take(0, 255);
            if (count >= 128) {
                count = count - 128 + 128 * take(0, 127);
            }
            if (count >= 1 && count <= MOST_UNITS) {
                return count;
            }
            if (fault == NONE) {
                fault = next - 1;
            }
            return 0;
        }

        /** Nothing may stand behind what was taken; the check is looked at last. */
        void takeEnd() {
            if (fault == NONE && next < length) {
                fault = next;
            }
            if (fault == NONE && dueCheck() != toldCheck()) {
                fault = CHECK_PLACE;
            }
        }

        private long dueCheck() {
            long a = 1;
            long b = 0;
            for (int i = HEAD_BYTES; i < length && i < bytes.length; i++) {
                a = (a + bytes[i]) % 65521;
                b = (b + a) % 65521;
            }
            return 65536 * b + a;
        }

        private long toldCheck() {
            long check = 0;
            for (int i = 3; i >= 0; i--) {
                check = check * 256 + bytes[CHECK_PLACE + i];
            }
            return check;
        }
    }

    /** What a file holds: its methods and its fields. */
    private static final class Program {
        private final Method[] methods = new Method[MOST_METHODS];
        private final int[] fields = new int[MOST_FIELDS];
        private final Flow flow = new Flow();
        private int methodCount = 0;
        private int fieldCount = 0;
        private boolean fit = false;

        Program() {
            for (int m = 0; m < MOST_METHODS; m++) {
                methods[m] = new Method();
            }
        }

        Method methodAt(int m) {
            return m >= 0 && m < methodCount && m < methods.length ? methods[m] : null;
        }

        boolean hasField(int k) {
            return k >= 0 && k < fieldCount && k < fields.length;
        }

        int fieldAt(int k) {
            return hasField(k) ? fields[k] : 0;
        }

        void setField(int k, int v) {
            if (hasField(k)) {
                fields[k] = v;
            }
        }

        /** Reads a file: the place at which it is ill, or NONE. */
        int readFrom(FileBytes file) {
            file.takeHead();
            methodCount = file.take(1, MOST_METHODS);
            fieldCount = file.take(0, MOST_FIELDS);
            for (int m = 0; m < methodCount && m < methods.length; m++) {
                methods[m].readFrom(file);
            }
            file.takeEnd();
            Arrays.fill(fields, 0);
            return file.fault;
        }

        /** Verifies all methods. */
        void judge() {
            fit = true;
            for (int m = 0; m < methodCount && m < methods.length; m++) {
                methods[m].layOut();
            }
            for (int m = 0; m < methodCount && m < methods.length; m++) {
                Method method = methods[m];
                method.verdict = Form.firstFault(this, method);
                method.formed = method.verdict == NONE;
                if (method.formed) {
                    giveTypes(method);
                    flow.follow(method);
                    method.verdict = Flow.firstWrong(this, method);
                }
                if (method.verdict != NONE) {
                    fit = false;
                }
            }
        }

        /** What the method returns that the 113 right before a step calls; NO_TYPE without one. */
        int returnedBefore(Method method, Step step) {
            Step before = method.stepAt(step.before);
            if (before == null || before.kind != Step.CALL) {
                return NO_TYPE;
            }
            Method called = methodAt(before.number);
            return called == null ? NO_TYPE : called.returns;
        }

        /** Only the methods tell which of the two types results and returns have. */
        private void giveTypes(Method method) {
            for (int unit = 0; unit < method.unitCount; unit++) {
                Step step = method.stepAt(unit);
                if (step != null && step.kind == Step.RESULT) {
                    step.sets = returnedBefore(method, step);
                } else if (step != null && step.kind == Step.LEAVE_WITH_AA) {
                    step.uses = method.returns;
                }
            }
        }
    }

    /** A method as the file tells it, its code laid out in steps, and what verifying said. */
    private static final class Method {
        private final int[] parameters = new int[MOST_PARAMETERS];
        private final int[] units = new int[MOST_UNITS];
        private final Step[] steps = new Step[MOST_UNITS];
        private final boolean[] begins = new boolean[MOST_UNITS];
        private int returns = NO_TYPE;
        private int parameterCount = 0;
        private int words = 0;
        private int registers = 0;
        private int unitCount = 0;
        private boolean formed = false;
        private int verdict = NONE;

        Method() {
            for (int unit = 0; unit < MOST_UNITS; unit++) {
                steps[unit] = new Step();
            }
        }

        void readFrom(FileBytes file) {
            returns = typeTold(file.take(0, 4));
            parameterCount = file.take(0, MOST_PARAMETERS);
            words = 0;
            for (int p = 0; p < parameterCount && p < parameters.length; p++) {
                parameters[p] = typeTold(file.take(1, 4));
                words += widthOf(parameters[p]);
            }
            registers = file.take(words, MOST_REGISTERS);
            unitCount = file.takeUnitCount();
            for (int u = 0; u < unitCount && u < units.length; u++) {
                int low = file.take(0, 255);
                units[u] = low + 256 * file.take(0, 255);
            }
        }

        private static int typeTold(int told) {
            switch (told) {
                case 1: return INT;
                case 2: return LONG;
                case 3: return FLOAT;
                case 4: return DOUBLE;
                default: return NO_TYPE;
            }
        }

        int parameterAt(int p) {
            return p >= 0 && p < parameterCount && p < parameters.length ? parameters[p] : NO_TYPE;
        }

        /** The first register that holds an argument. */
        int firstArgument() {
            return registers - words;
        }

        /** The step that begins at a unit, or null. */
        Step stepAt(int unit) {
            if (unit < 0 || unit >= unitCount || unit >= MOST_UNITS) {
                return null;
            }
            return begins[unit] ? steps[unit] : null;
        }

        /** Lays the instructions one behind the other, as far as one is known where it begins. */
        void layOut() {
            for (int unit = 0; unit < MOST_UNITS; unit++) {
                begins[unit] = false;
            }
            int unit = 0;
            int before = NONE;
            for (int i = 0; i < MOST_UNITS && unit < unitCount && unit < MOST_UNITS; i++) {
                Step step = steps[unit];
                step.decode(units[unit], unitAt(unit + 1), unitAt(unit + 2));
                step.reached = false;
                step.before = before;
                step.complete = step.length > 0 && unit + step.length <= unitCount;
                begins[unit] = true;
                before = unit;
                unit = step.complete ? unit + step.length : unitCount;
            }
        }

        private int unitAt(int unit) {
            return unit >= 0 && unit < unitCount && unit < units.length ? units[unit] : 0;
        }

        int typeBefore(int unit, int register) {
            Step step = stepAt(unit);
            if (!formed || step == null || !step.reached) {
                return NONE;
            }
            return register >= 0 && register < registers ? step.typeOf(register) : NONE;
        }
    }

    /** An instruction, taken apart. */
    private static final class Step {
        private static final int UNKNOWN = 0;
        private static final int NOTHING = 1;
        private static final int LEAVE = 2;
        private static final int LEAVE_WITH_AA = 3;
        private static final int A_OF_B = 4;
        private static final int RESULT = 5;
        private static final int A_IS_B = 6;
        private static final int JUMP = 7;
        private static final int AA_IS_N = 8;
        private static final int AA_OF_C_D = 9;
        private static final int IF_A_B = 10;
        private static final int IF_AA = 11;
        private static final int GET = 12;
        private static final int PUT = 13;
        private static final int CALL = 14;

        /** Rows of five: the operations from .. to, their kind, the type they set, and they use. */
        private static final int[] OPERATIONS = {
            0, 0, NOTHING, NO_TYPE, NO_TYPE,
            1, 1, A_OF_B, ONE_REGISTER, ONE_REGISTER,
            4, 4, A_OF_B, ONE_PAIR, ONE_PAIR,
            10, 10, RESULT, ONE_REGISTER, NO_TYPE,
            11, 11, RESULT, ONE_PAIR, NO_TYPE,
            14, 14, LEAVE, NO_TYPE, NO_TYPE,
            15, 15, LEAVE_WITH_AA, NO_TYPE, ONE_REGISTER,
            16, 16, LEAVE_WITH_AA, NO_TYPE, ONE_PAIR,
            18, 18, A_IS_B, INT, NO_TYPE,
            19, 19, AA_IS_N, INT, NO_TYPE,
            22, 22, AA_IS_N, LONG, NO_TYPE,
            40, 40, JUMP, NO_TYPE, NO_TYPE,
            45, 45, AA_OF_C_D, INT, FLOAT,
            47, 47, AA_OF_C_D, INT, DOUBLE,
            49, 49, AA_OF_C_D, INT, LONG,
            50, 55, IF_A_B, NO_TYPE, INT,
            56, 61, IF_AA, NO_TYPE, INT,
            96, 96, GET, INT, NO_TYPE,
            103, 103, PUT, NO_TYPE, INT,
            113, 113, CALL, NO_TYPE, NO_TYPE,
            123, 123, A_OF_B, INT, INT,
            125, 125, A_OF_B, LONG, LONG,
            127, 127, A_OF_B, FLOAT, FLOAT,
            128, 128, A_OF_B, DOUBLE, DOUBLE,
            129, 129, A_OF_B, LONG, INT,
            130, 130, A_OF_B, FLOAT, INT,
            131, 131, A_OF_B, DOUBLE, INT,
            132, 132, A_OF_B, INT, LONG,
            133, 133, A_OF_B, FLOAT, LONG,
            134, 134, A_OF_B, DOUBLE, LONG,
            135, 135, A_OF_B, INT, FLOAT,
            136, 136, A_OF_B, LONG, FLOAT,
            137, 137, A_OF_B, DOUBLE, FLOAT,
            138, 138, A_OF_B, INT, DOUBLE,
            139, 139, A_OF_B, LONG, DOUBLE,
            140, 140, A_OF_B, FLOAT, DOUBLE,
            144, 154, AA_OF_C_D, INT, INT,
            155, 159, AA_OF_C_D, LONG, LONG,
            166, 169, AA_OF_C_D, FLOAT, FLOAT,
            171, 174, AA_OF_C_D, DOUBLE, DOUBLE,
        };

        /** Whether it may be come to, and the types that the registers have before it then. */
        private boolean reached = false;
        private final int[] types = new int[MOST_REGISTERS];
        private int operation = 0;
        private int kind = UNKNOWN;
        /** How many units it has; 0 if there is no such operation. */
        private int length = 0;
        /** Whether there is such an operation, and all its units are there. */
        private boolean complete = false;
        /** The unit at which the step before it begins. */
        private int before = NONE;
        /** The types that it sets and that it uses; NO_TYPE if it does neither. */
        private int sets = NO_TYPE;
        private int uses = NO_TYPE;
        /** The register (a pair's first one) that it sets. */
        private int result = 0;
        /** The registers that it uses; the second one is NONE if it uses but one. */
        private int first = 0;
        private int second = NONE;
        /** N, the number that it gives, or how many units it goes on. */
        private int number = 0;
        /** How many registers a 113 names, and the unit that does. */
        private int namedCount = 0;
        private int names = 0;

        void decode(int unit, int behind, int third) {
            operation = unit & 255;
            findOperation();
            length = lengthOf(kind);
            number = (short) behind;
            second = NONE;
            int a = unit >> 8 & 15;
            int b = unit >> 12 & 15;
            int aa = unit >> 8 & 255;
            result = aa;
            first = aa;
            switch (kind) {
                case A_OF_B: result = a; first = b; break;
                case A_IS_B: result = a; number = (b ^ 8) - 8; break;
                case JUMP: number = (byte) aa; break;
                case IF_A_B: first = a; second = b; break;
                case AA_OF_C_D: first = behind & 255; second = behind >> 8 & 255; break;
                case CALL: number = behind; namedCount = b; names = third; break;
                default: break;
            }
        }

        private void findOperation() {
            kind = UNKNOWN;
            sets = NO_TYPE;
            uses = NO_TYPE;
            for (int i = 0; i + 4 < OPERATIONS.length; i += 5) {
                if (operation >= OPERATIONS[i] && operation <= OPERATIONS[i + 1]) {
                    kind = OPERATIONS[i + 2];
                    sets = OPERATIONS[i + 3];
                    uses = OPERATIONS[i + 4];
                }
            }
        }

        private static int lengthOf(int kind) {
            switch (kind) {
                case UNKNOWN: return 0;
                case AA_IS_N: case AA_OF_C_D: case IF_A_B: case IF_AA: case GET: case PUT: return 2;
                case CALL: return 3;
                default: return 1;
            }
        }

        /** The w-th register that a 113 names. */
        int named(int w) {
            return w >= 0 && w < MOST_NAMED ? names >> (4 * w) & 15 : 0;
        }

        int typeOf(int register) {
            return register >= 0 && register < types.length ? types[register] : NO_TYPE;
        }

        /** Whether a register has the type before it that is asked for. */
        boolean has(int register, int asked) {
            int type = typeOf(register);
            switch (asked) {
                case ONE_REGISTER: return type == INT || type == FLOAT;
                case ONE_PAIR: return type == LONG || type == DOUBLE;
                default: return type == asked;
            }
        }

        boolean goesOnBehind() {
            return kind != LEAVE && kind != LEAVE_WITH_AA && kind != JUMP;
        }

        boolean branches() {
            return kind == JUMP || kind == IF_A_B || kind == IF_AA;
        }
    }

    /** Looks whether the instructions of a method are of the right form. */
    private static final class Form {
        private Form() {
        }

        /** The unit at which the first instruction begins that isn't of the right form, or NONE. */
        static int firstFault(Program program, Method method) {
            for (int unit = 0; unit < method.unitCount; unit++) {
                Step step = method.stepAt(unit);
                if (step != null && !fits(program, method, unit, step)) {
                    return unit;
                }
            }
            return NONE;
        }

        private static boolean fits(Program program, Method method, int unit, Step step) {
            if (!step.complete || !registersAreThere(method, step)
                    || !goesOnRightly(method, unit, step)) {
                return false;
            }
            switch (step.kind) {
                case Step.GET: case Step.PUT: return program.hasField(step.number);
                case Step.CALL: return callFits(method, step, program.methodAt(step.number));
                case Step.RESULT: return isOfWidth(program.returnedBefore(method, step), step.sets);
                case Step.LEAVE: return method.returns == NO_TYPE;
                case Step.LEAVE_WITH_AA: return isOfWidth(method.returns, step.uses);
                default: return true;
            }
        }

        private static boolean registersAreThere(Method method, Step step) {
            if (step.sets != NO_TYPE && !isThere(method, step.result, widthOf(step.sets))) {
                return false;
            }
            if (step.uses == NO_TYPE) {
                return true;
            }
            int width = widthOf(step.uses);
            return isThere(method, step.first, width)
                && (step.second == NONE || isThere(method, step.second, width));
        }

        private static boolean isThere(Method method, int register, int width) {
            return register >= 0 && register + width <= method.registers;
        }

        /** Only a 113 may go on to a RESULT, to the one right behind it. */
        private static boolean goesOnRightly(Method method, int unit, Step step) {
            if (step.goesOnBehind()) {
                Step behind = method.stepAt(unit + step.length);
                if (behind == null || (behind.kind == Step.RESULT && step.kind != Step.CALL)) {
                    return false;
                }
            }
            if (!step.branches()) {
                return true;
            }
            Step target = method.stepAt(unit + step.number);
            return target != null && target.kind != Step.RESULT;
        }

        private static boolean isOfWidth(int type, int asked) {
            return type != NO_TYPE && widthOf(type) == widthOf(asked);
        }

        private static boolean callFits(Method method, Step step, Method called) {
            if (called == null || step.namedCount > MOST_NAMED || step.namedCount != called.words) {
                return false;
            }
            int word = 0;
            for (int p = 0; p < called.parameterCount; p++) {
                int width = widthOf(called.parameterAt(p));
                int register = step.named(word);
                if (!isThere(method, register, width)) {
                    return false;
                }
                if (width == 2 && step.named(word + 1) != register + 1) {
                    return false;
                }
                word += width;
            }
            return true;
        }
    }

    /** Finds the types that registers have before the steps of a method of the right form. */
    private static final class Flow {
        private final int[] after = new int[MOST_REGISTERS];
        private boolean changed = false;

        /** Goes through the steps that may be come to until nothing changes. */
        void follow(Method method) {
            begin(method);
            changed = true;
            for (int round = 0; round < MOST_ROUNDS && changed; round++) {
                changed = false;
                for (int unit = 0; unit < method.unitCount; unit++) {
                    Step step = method.stepAt(unit);
                    if (step == null || !step.reached) {
                        continue;
                    }
                    passOver(step);
                    if (step.goesOnBehind()) {
                        join(method.stepAt(unit + step.length));
                    }
                    if (step.branches()) {
                        join(method.stepAt(unit + step.number));
                    }
                }
            }
        }

        /** The first unit at which a step that may be come to uses what hasn't the type due. */
        static int firstWrong(Program program, Method method) {
            for (int unit = 0; unit < method.unitCount; unit++) {
                Step step = method.stepAt(unit);
                if (step != null && step.reached && !isRight(program, step)) {
                    return unit;
                }
            }
            return NONE;
        }

        /** The parameters come to unit 0, as one way of those that may. */
        private void begin(Method method) {
            Arrays.fill(after, NO_TYPE);
            int register = method.firstArgument();
            for (int p = 0; p < method.parameterCount; p++) {
                int type = method.parameterAt(p);
                int width = widthOf(type);
                setTypes(register, width, type);
                register += width;
            }
            join(method.stepAt(0));
        }

        /** Makes the row after of what is before a step. */
        private void passOver(Step step) {
            System.arraycopy(step.types, 0, after, 0, MOST_REGISTERS);
            if (step.sets == NO_TYPE) {
                return;
            }
            int given = step.sets;
            if (given == ONE_REGISTER || given == ONE_PAIR) {
                given = step.has(step.first, step.uses) ? step.typeOf(step.first) : NO_TYPE;
            }
            setTypes(step.result, widthOf(step.sets), given);
        }

        /** Gives a register, or the pair of it and the next one, a type, which may be none. */
        private void setTypes(int register, int width, int given) {
            setOne(register, given);
            if (width == 2) {
                setOne(register + 1, given == NO_TYPE ? NO_TYPE : given + 1);
            }
        }

        /** Sets one register; the other one of the pair that it was in, if any, loses its type. */
        private void setOne(int register, int given) {
            if (register < 0 || register >= after.length) {
                return;
            }
            int type = after[register];
            boolean wasFirst = type == LONG || type == DOUBLE;
            boolean wasSecond = type == LONG_SECOND || type == DOUBLE_SECOND;
            after[register] = given;
            if (wasFirst && register + 1 < after.length) {
                after[register + 1] = NO_TYPE;
            } else if (wasSecond && register > 0) {
                after[register - 1] = NO_TYPE;
            }
        }

        /**
         * Another way comes to a step, with the row after. All rows have but whole pairs, so where
         * two of them agree in one register of a pair they agree in the other one: none is halved.
         */
        private void join(Step step) {
            if (step == null) {
                return;
            }
            boolean firstWay = !step.reached;
            step.reached = true;
            changed = changed || firstWay;
            for (int r = 0; r < MOST_REGISTERS; r++) {
                if (firstWay) {
                    step.types[r] = after[r];
                } else if (step.types[r] != NO_TYPE && step.types[r] != after[r]) {
                    step.types[r] = NO_TYPE;
                    changed = true;
                }
            }
        }

        private static boolean isRight(Program program, Step step) {
            if (step.kind == Step.CALL) {
                return argumentsAreRight(step, program.methodAt(step.number));
            }
            if (step.uses == NO_TYPE) {
                return true;
            }
            return step.has(step.first, step.uses)
                && (step.second == NONE || step.has(step.second, step.uses));
        }

        private static boolean argumentsAreRight(Step step, Method called) {
            if (called == null) {
                return false;
            }
            int word = 0;
            for (int p = 0; p < called.parameterCount; p++) {
                int type = called.parameterAt(p);
                if (!step.has(step.named(word), type)) {
                    return false;
                }
                word += widthOf(type);
            }
            return true;
        }
    }

    /** The numbers that are passed for the next call. */
    private static final class Arguments {
        private final int[] types = new int[MOST_PARAMETERS];
        private final long[] wholes = new long[MOST_PARAMETERS];
        private final double[] reals = new double[MOST_PARAMETERS];
        private int count = 0;

        boolean add(int type, long whole, double real) {
            if (count < 0 || count >= MOST_PARAMETERS) {
                return false;
            }
            types[count] = type;
            wholes[count] = whole;
            reals[count] = real;
            count++;
            return true;
        }

        void clear() {
            count = 0;
        }

        boolean suit(Method method) {
            if (count != method.parameterCount) {
                return false;
            }
            for (int p = 0; p < count && p < types.length; p++) {
                if (types[p] != method.parameterAt(p)) {
                    return false;
                }
            }
            return true;
        }

        /** Puts them into the last registers of the method that is called. */
        void copyTo(Frame frame, Method method) {
            int register = method.firstArgument();
            for (int p = 0; p < count && p < MOST_PARAMETERS; p++) {
                frame.set(register, wholes[p], reals[p]);
                register += widthOf(types[p]);
            }
        }
    }

    /**
     * An open call. What a register holds is kept in two rows, by its type: INTs and LONGs whole,
     * FLOATs and DOUBLEs real; a pair's number is kept at its first register alone, since verified
     * code never reads one half of a pair or a pair of which a half was set.
     */
    private static final class Frame {
        private final long[] wholes = new long[MOST_REGISTERS];
        private final double[] reals = new double[MOST_REGISTERS];
        private Method method = null;
        private int unit = 0;

        void enter(Method called) {
            method = called;
            unit = 0;
        }

        Step nextStep() {
            return method == null ? null : method.stepAt(unit);
        }

        long whole(int register) {
            return register >= 0 && register < wholes.length ? wholes[register] : 0L;
        }

        double realNumber(int register) {
            return register >= 0 && register < reals.length ? reals[register] : 0.0;
        }

        void set(int register, long whole, double real) {
            if (register >= 0 && register < MOST_REGISTERS) {
                wholes[register] = whole;
                reals[register] = real;
            }
        }
    }

    /** Runs what was verified. */
    private static final class Machine {
        private final Frame[] frames = new Frame[MOST_CALLS];
        private int open = 0;
        private int condition = IDLE;
        private int trouble = NO_TROUBLE;
        // What the latest return gave: the result of the 113 before, or of the method called first.
        private int resultType = NO_TYPE;
        private long whole = 0L;
        private double realResult = 0.0;

        Machine() {
            for (int k = 0; k < MOST_CALLS; k++) {
                frames[k] = new Frame();
            }
        }

        void rest() {
            condition = IDLE;
            open = 0;
        }

        void begin(Method method, Arguments arguments) {
            Frame frame = frames[0];
            frame.enter(method);
            arguments.copyTo(frame, method);
            open = 1;
            condition = RUNS;
            trouble = NO_TROUBLE;
        }

        /** The type of what the method that was called returned; NO_TYPE if there is no such. */
        int returnedType() {
            return condition == RETURNED ? resultType : NO_TYPE;
        }

        long wholeResult() {
            int type = returnedType();
            return type == INT || type == LONG ? whole : 0L;
        }

        /** The unit at which the k-th open call goes on. */
        int unitOf(int k) {
            Frame frame = condition == RUNS && k >= 0 && k < open ? frameAt(open - 1 - k) : null;
            return frame == null ? NONE : frame.unit;
        }

        private Frame frameAt(int k) {
            return k >= 0 && k < frames.length ? frames[k] : null;
        }

        /** Does up to so many instructions of the program that was called: how many were done. */
        int advance(Program program, int most) {
            int done = 0;
            for (int i = 0; i < most && condition == RUNS; i++) {
                Frame frame = frameAt(open - 1);
                Step step = frame == null ? null : frame.nextStep();
                if (frame == null || step == null) {
                    return done;
                }
                perform(program, frame, step);
                if (condition != STOPPED) {
                    done++;
                }
            }
            return done;
        }

        private void stop(int why) {
            condition = STOPPED;
            trouble = why;
        }

        private void perform(Program program, Frame frame, Step step) {
            int from = frame.unit;
            frame.unit = from + step.length;
            switch (step.kind) {
                case Step.LEAVE: case Step.LEAVE_WITH_AA: leave(frame, step); break;
                case Step.A_OF_B: convert(frame, step); break;
                case Step.RESULT: frame.set(step.result, whole, realResult); break;
                case Step.A_IS_B: case Step.AA_IS_N:
                    frame.set(step.result, step.number, 0.0);
                    break;
                case Step.JUMP: frame.unit = from + step.number; break;
                case Step.AA_OF_C_D: combine(frame, step); break;
                case Step.IF_A_B: case Step.IF_AA:
                    if (holds(frame, step)) {
                        frame.unit = from + step.number;
                    }
                    break;
                case Step.GET: frame.set(step.result, program.fieldAt(step.number), 0.0); break;
                case Step.PUT: program.setField(step.number, (int) frame.whole(step.first)); break;
                case Step.CALL: enter(program.methodAt(step.number), frame, step); break;
                default: break;
            }
        }

        private void leave(Frame frame, Step step) {
            boolean gives = step.kind == Step.LEAVE_WITH_AA;
            resultType = step.uses;
            whole = gives ? frame.whole(step.first) : 0L;
            realResult = gives ? frame.realNumber(step.first) : 0.0;
            open--;
            if (open == 0) {
                condition = RETURNED;
            }
        }

        private void enter(Method called, Frame frame, Step step) {
            Frame next = frameAt(open);
            if (next == null || called == null) {
                stop(TOO_MANY_CALLS);
                return;
            }
            next.enter(called);
            int word = 0;
            for (int p = 0; p < called.parameterCount; p++) {
                int from = step.named(word);
                next.set(called.firstArgument() + word, frame.whole(from), frame.realNumber(from));
                word += widthOf(called.parameterAt(p));
            }
            open++;
        }

        private static boolean holds(Frame frame, Step step) {
            long a = frame.whole(step.first);
            long b = step.kind == Step.IF_A_B ? frame.whole(step.second) : 0L;
            switch (step.operation) {
                case 50: case 56: return a == b;
                case 51: case 57: return a != b;
                case 52: case 58: return a < b;
                case 53: case 59: return a >= b;
                case 54: case 60: return a > b;
                default: return a <= b;
            }
        }

        /** A becomes what comes of B: the same, the negative, or the same as another type. */
        private static void convert(Frame frame, Step step) {
            long number = frame.whole(step.first);
            double real = frame.realNumber(step.first);
            switch (step.operation) {
                case 123: frame.set(step.result, -(int) number, 0.0); break;
                case 125: frame.set(step.result, -number, 0.0); break;
                case 127: case 128: frame.set(step.result, 0L, -real); break;
                case 130: case 133: frame.set(step.result, 0L, (float) number); break;
                case 131: case 134: frame.set(step.result, 0L, (double) number); break;
                case 132: frame.set(step.result, (int) number, 0.0); break;
                case 135: case 138: frame.set(step.result, (int) real, 0.0); break;
                case 136: case 139: frame.set(step.result, (long) real, 0.0); break;
                case 140: frame.set(step.result, 0L, (float) real); break;
                default: frame.set(step.result, number, real); break;
            }
        }

        /** AA becomes what comes of C and D. */
        private void combine(Frame frame, Step step) {
            int operation = step.operation;
            long c = frame.whole(step.first);
            long d = frame.whole(step.second);
            double realC = frame.realNumber(step.first);
            double realD = frame.realNumber(step.second);
            if (Arithmetic.divides(operation) && d == 0) {
                stop(DIVISION);
            } else if (operation == 49) {
                frame.set(step.result, Long.compare(c, d), 0.0);
            } else if (operation == 45 || operation == 47) {
                frame.set(step.result, Arithmetic.compareReals(realC, realD), 0.0);
            } else if (step.uses == INT) {
                frame.set(step.result, Arithmetic.ofInts(operation, (int) c, (int) d), 0.0);
            } else if (step.uses == LONG) {
                frame.set(step.result, Arithmetic.ofLongs(operation, c, d), 0.0);
            } else if (step.uses == FLOAT) {
                float real = Arithmetic.ofFloats(operation, (float) realC, (float) realD);
                frame.set(step.result, 0L, Arithmetic.held(real));
            } else {
                double real = Arithmetic.ofDoubles(operation, realC, realD);
                frame.set(step.result, 0L, Arithmetic.held(real));
            }
        }
    }

    /** What comes of two numbers. */
    private static final class Arithmetic {
        private Arithmetic() {
        }

        /** Whether an operation is a quotient or a rest of INTs or LONGs. */
        static boolean divides(int operation) {
            return operation == 147 || operation == 148 || operation == 158 || operation == 159;
        }

        static int compareReals(double c, double d) {
            if (c < d) {
                return -1;
            }
            return c > d ? 1 : 0;
        }

        static int ofInts(int operation, int c, int d) {
            switch (operation) {
                case 144: return c + d;
                case 145: return c - d;
                case 146: return c * d;
                case 147: return d == 0 ? 0 : c / d;
                case 148: return d == 0 ? 0 : c % d;
                case 149: return c & d;
                case 150: return c | d;
                case 151: return c ^ d;
                case 152: return c << (d & 31);
                case 153: return c >> (d & 31);
                default: return c >>> (d & 31);
            }
        }

        static long ofLongs(int operation, long c, long d) {
            switch (operation) {
                case 155: return c + d;
                case 156: return c - d;
                case 157: return c * d;
                case 158: return d == 0 ? 0L : c / d;
                default: return d == 0 ? 0L : c % d;
            }
        }

        static float ofFloats(int operation, float c, float d) {
            switch (operation) {
                case 166: return c + d;
                case 167: return c - d;
                case 168: return c * d;
                default: return d == 0.0f ? 0.0f : c / d;
            }
        }

        static double ofDoubles(int operation, double c, double d) {
            switch (operation) {
                case 171: return c + d;
                case 172: return c - d;
                case 173: return c * d;
                default: return d == 0.0 ? 0.0 : c / d;
            }
        }

        /** 0.0 in place of what is too great. */
        static double held(double real) {
            return real > GREATEST || real < -GREATEST ? 0.0 : real;
        }
    }
}
