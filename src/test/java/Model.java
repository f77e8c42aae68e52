import java.util.ArrayDeque;
import java.util.ArrayList;
import java.util.HashMap;
import java.util.HashSet;
import java.util.List;
import java.util.Map;
import java.util.Set;

/**
 * The same machine, made another way for the tests: types are found by going every way with every
 * row of types, and only then laying the rows together; what runs are numbers that bear their type,
 * so code that isn't as verified fails by a cast.
 */
final class Model {
    /** What stands in the second register of a pair. */
    private static final Object SECOND = "second";
    private static final int MOST_ROWS = 30000;
    private static final double GREATEST = 1152921504606846976.0;

    /** A method as it was made. */
    static final class Made {
        final int returns;
        final int[] parameters;
        final int registers;
        final int[] units;
        int verdict = -1;
        boolean formed = false;
        final Map<Integer, String> rows = new HashMap<>();

        Made(int returns, int[] parameters, int registers, int[] units) {
            this.returns = returns;
            this.parameters = parameters;
            this.registers = registers;
            this.units = units;
        }

        int words() {
            int words = 0;
            for (int type : parameters) {
                words += width(type);
            }
            return words;
        }
    }

    private static final class Open {
        final Made method;
        final Object[] registers;
        int unit = 0;

        Open(Made method) {
            this.method = method;
            this.registers = new Object[method.registers];
        }
    }

    final List<Made> methods = new ArrayList<>();
    final int[] fields;
    /** Whether there were more rows than are gone through. */
    boolean tooMany = false;

    private final List<Open> calls = new ArrayList<>();
    int state = 0;
    Object result = null;
    Class<?> thrown = null;

    Model(int fields) {
        this.fields = new int[fields];
    }

    Code toCode() {
        Code code = Code.methods(methods.size(), fields.length);
        for (Made method : methods) {
            code.method(method.returns, method.parameters, method.registers, method.units);
        }
        return code;
    }

    static int width(int type) {
        return type == 2 || type == 4 ? 2 : 1;
    }

    // ---- Form

    static int length(int op) {
        if (op == 113) {
            return 3;
        }
        if (op == 19 || op == 22 || op == 45 || op == 47 || op == 49 || op >= 50 && op <= 61
            || op == 96 || op == 103 || op >= 144 && op <= 159 || op >= 166 && op <= 169
            || op >= 171 && op <= 174) {
            return 2;
        }
        boolean one = op == 0 || op == 1 || op == 4 || op == 10 || op == 11 || op >= 14 && op <= 16
            || op == 18 || op == 40 || op == 123 || op == 125 || op >= 127 && op <= 140;
        return one ? 1 : 0;
    }

    /** What an operation sets and uses, as the file tells types: "A:1 C:3 D:3"; n and w of either type. */
    static String operands(int op) {
        switch (op) {
            case 1: return "A:n B:n";
            case 4: return "A:w B:w";
            case 10: return "S:n";
            case 11: return "S:w";
            case 15: return "U:n";
            case 16: return "U:w";
            case 18: return "A:1";
            case 19: case 96: return "S:1";
            case 22: return "S:2";
            case 45: return "S:1 C:3 D:3";
            case 47: return "S:1 C:4 D:4";
            case 49: return "S:1 C:2 D:2";
            case 103: return "U:1";
            case 123: return "A:1 B:1";
            case 125: return "A:2 B:2";
            case 127: return "A:3 B:3";
            case 128: return "A:4 B:4";
            case 129: return "A:2 B:1";
            case 130: return "A:3 B:1";
            case 131: return "A:4 B:1";
            case 132: return "A:1 B:2";
            case 133: return "A:3 B:2";
            case 134: return "A:4 B:2";
            case 135: return "A:1 B:3";
            case 136: return "A:2 B:3";
            case 137: return "A:4 B:3";
            case 138: return "A:1 B:4";
            case 139: return "A:2 B:4";
            case 140: return "A:3 B:4";
            default: break;
        }
        if (op >= 50 && op <= 55) {
            return "V:1 B:1";
        }
        if (op >= 56 && op <= 61) {
            return "U:1";
        }
        if (op >= 144 && op <= 154) {
            return "S:1 C:1 D:1";
        }
        if (op >= 155 && op <= 159) {
            return "S:2 C:2 D:2";
        }
        if (op >= 166 && op <= 169) {
            return "S:3 C:3 D:3";
        }
        return op >= 171 && op <= 174 ? "S:4 C:4 D:4" : "";
    }

    /** A and V are A's register, set or used; S and U are AA's, set or used. */
    private static int register(Made m, int unit, char name) {
        int word = m.units[unit];
        switch (name) {
            case 'A': case 'V': return word >> 8 & 15;
            case 'B': return word >> 12 & 15;
            case 'C': return m.units[unit + 1] & 255;
            case 'D': return m.units[unit + 1] >> 8 & 255;
            default: return word >> 8 & 255;
        }
    }

    private static int op(Made m, int unit) {
        return m.units[unit] & 255;
    }

    private static boolean isResult(Made m, int unit) {
        return op(m, unit) == 10 || op(m, unit) == 11;
    }

    private List<Integer> begins(Made m) {
        List<Integer> begins = new ArrayList<>();
        int unit = 0;
        while (unit < m.units.length) {
            begins.add(unit);
            int length = length(op(m, unit));
            if (length == 0) {
                break;
            }
            unit += length;
        }
        return begins;
    }

    private static List<Integer> goesOn(Made m, int unit) {
        int op = op(m, unit);
        List<Integer> next = new ArrayList<>();
        if (op == 40) {
            next.add(unit + (byte) (m.units[unit] >> 8));
        } else if (op < 14 || op > 16) {
            next.add(unit + length(op));
        }
        if (op >= 50 && op <= 61) {
            next.add(unit + (short) m.units[unit + 1]);
        }
        return next;
    }

    private boolean formed(Made m, List<Integer> begins, int index) {
        int unit = begins.get(index);
        int op = op(m, unit);
        if (length(op) == 0 || unit + length(op) > m.units.length) {
            return false;
        }
        for (String operand : operands(op).split(" ")) {
            if (operand.isEmpty()) {
                continue;
            }
            char type = operand.charAt(2);
            int last = register(m, unit, operand.charAt(0)) + (type == 'w' || type == '2' || type == '4' ? 1 : 0);
            if (last >= m.registers) {
                return false;
            }
        }
        for (int next : goesOn(m, unit)) {
            if (!begins.contains(next)) {
                return false;
            }
            if (isResult(m, next) && op != 113) {
                return false;
            }
        }
        if ((op == 96 || op == 103) && (short) m.units[unit + 1] < 0
            || (op == 96 || op == 103) && m.units[unit + 1] >= fields.length) {
            return false;
        }
        if (op == 14 && m.returns != 0 || op == 15 && m.returns != 1 && m.returns != 3
            || op == 16 && m.returns != 2 && m.returns != 4) {
            return false;
        }
        if (isResult(m, unit)) {
            int before = index == 0 ? -1 : begins.get(index - 1);
            return before >= 0 && op(m, before) == 113 && m.units[before + 1] < methods.size()
                && methods.get(m.units[before + 1]).returns != 0
                && width(methods.get(m.units[before + 1]).returns) == op - 9;
        }
        return op != 113 || callFormed(m, unit);
    }

    private boolean callFormed(Made m, int unit) {
        int b = m.units[unit] >> 12 & 15;
        if (m.units[unit + 1] >= methods.size() || b > 4) {
            return false;
        }
        Made called = methods.get(m.units[unit + 1]);
        if (b != called.words()) {
            return false;
        }
        for (int i = 0; i < b; i++) {
            if ((m.units[unit + 2] >> 4 * i & 15) >= m.registers) {
                return false;
            }
        }
        int word = 0;
        for (int type : called.parameters) {
            int register = m.units[unit + 2] >> 4 * word & 15;
            if (width(type) == 2 && (m.units[unit + 2] >> 4 * word + 4 & 15) != register + 1) {
                return false;
            }
            word += width(type);
        }
        return true;
    }

    // ---- Types: a row is a text, a digit a register

    private static String given(int type) {
        return new String[] {"0", "1", "34", "2", "56"}[type];
    }

    private static String set(String row, int register, String types) {
        char[] after = row.toCharArray();
        for (int r = register; r < register + types.length(); r++) {
            if (row.charAt(r) == '3' || row.charAt(r) == '5') {
                after[r + 1] = '0';
            }
            if (row.charAt(r) == '4' || row.charAt(r) == '6') {
                after[r - 1] = '0';
            }
        }
        for (int i = 0; i < types.length(); i++) {
            after[register + i] = types.charAt(i);
        }
        return new String(after);
    }

    private static boolean has(String row, int register, String types) {
        return row.startsWith(types, register);
    }

    private boolean isRight(Made m, int unit, String row) {
        int op = op(m, unit);
        if (op == 113) {
            int word = 0;
            for (int type : methods.get(m.units[unit + 1]).parameters) {
                if (!has(row, m.units[unit + 2] >> 4 * word & 15, given(type))) {
                    return false;
                }
                word += width(type);
            }
            return true;
        }
        if (op == 15 || op == 16) {
            return has(row, register(m, unit, 'U'), given(m.returns));
        }
        for (String operand : operands(op).split(" ")) {
            if (operand.isEmpty() || operand.charAt(0) == 'A' || operand.charAt(0) == 'S') {
                continue;
            }
            int register = register(m, unit, operand.charAt(0));
            char type = operand.charAt(2);
            boolean right;
            if (type == 'n') {
                right = has(row, register, "1") || has(row, register, "2");
            } else if (type == 'w') {
                right = has(row, register, "34") || has(row, register, "56");
            } else {
                right = has(row, register, given(type - '0'));
            }
            if (!right) {
                return false;
            }
        }
        return true;
    }

    private String after(Made m, int unit, String row, int before) {
        int op = op(m, unit);
        if (op == 1) {
            String type = row.substring(register(m, unit, 'B'), register(m, unit, 'B') + 1);
            return set(row, register(m, unit, 'A'), type.equals("1") || type.equals("2") ? type : "0");
        }
        if (op == 4) {
            String type = row.substring(register(m, unit, 'B'), register(m, unit, 'B') + 2);
            return set(row, register(m, unit, 'A'), type.equals("34") || type.equals("56") ? type : "00");
        }
        if (isResult(m, unit)) {
            int returns = methods.get(m.units[before + 1]).returns;
            return set(row, register(m, unit, 'S'), given(returns));
        }
        for (String operand : operands(op).split(" ")) {
            if (!operand.isEmpty() && (operand.charAt(0) == 'A' || operand.charAt(0) == 'S')) {
                return set(row, register(m, unit, operand.charAt(0)), given(operand.charAt(2) - '0'));
            }
        }
        return row;
    }

    void verify() {
        for (Made m : methods) {
            List<Integer> begins = begins(m);
            m.verdict = -1;
            for (int i = begins.size() - 1; i >= 0; i--) {
                if (!formed(m, begins, i)) {
                    m.verdict = begins.get(i);
                }
            }
            m.formed = m.verdict == -1;
            if (m.formed) {
                types(m, begins);
            }
        }
    }

    private void types(Made m, List<Integer> begins) {
        StringBuilder first = new StringBuilder();
        for (int r = 0; r < m.registers - m.words(); r++) {
            first.append('0');
        }
        for (int type : m.parameters) {
            first.append(given(type));
        }
        Set<String> seen = new HashSet<>();
        ArrayDeque<String> todo = new ArrayDeque<>();
        todo.add("0 " + first);
        seen.add("0 " + first);
        while (!todo.isEmpty()) {
            String[] next = todo.remove().split(" ", -1);
            int unit = Integer.parseInt(next[0]);
            int index = begins.indexOf(unit);
            String row = next[1];
            m.rows.put(unit, m.rows.containsKey(unit) ? meet(m.rows.get(unit), row) : row);
            String after = after(m, unit, row, index == 0 ? -1 : begins.get(index - 1));
            for (int goesOn : goesOn(m, unit)) {
                if (seen.add(goesOn + " " + after)) {
                    todo.add(goesOn + " " + after);
                }
            }
            if (seen.size() > MOST_ROWS) {
                tooMany = true;
                return;
            }
        }
        for (int i = begins.size() - 1; i >= 0; i--) {
            int unit = begins.get(i);
            if (m.rows.containsKey(unit) && !isRight(m, unit, m.rows.get(unit))) {
                m.verdict = unit;
            }
        }
    }

    private static String meet(String one, String other) {
        StringBuilder row = new StringBuilder();
        for (int r = 0; r < one.length(); r++) {
            row.append(one.charAt(r) == other.charAt(r) ? one.charAt(r) : '0');
        }
        for (int r = 0; r < row.length(); r++) {
            char type = row.charAt(r);
            boolean half = (type == '3' || type == '5')
                && (r + 1 >= row.length() || row.charAt(r + 1) != type + 1)
                || (type == '4' || type == '6') && (r == 0 || row.charAt(r - 1) != type - 1);
            if (half) {
                row.setCharAt(r, '0');
            }
        }
        return row.toString();
    }

    int type(int m, int unit, int register) {
        if (m < 0 || m >= methods.size() || register < 0 || register >= methods.get(m).registers) {
            return -1;
        }
        Made made = methods.get(m);
        return made.formed && made.rows.containsKey(unit) ? made.rows.get(unit).charAt(register) - '0' : -1;
    }

    boolean fit() {
        for (Made m : methods) {
            if (m.verdict != -1) {
                return false;
            }
        }
        return true;
    }

    // ---- Running

    void call(int m, Object[] arguments) {
        calls.clear();
        Open open = new Open(methods.get(m));
        int register = open.method.registers - open.method.words();
        for (Object argument : arguments) {
            register = put(open, register, argument);
        }
        calls.add(open);
        state = 1;
        result = null;
        thrown = null;
    }

    private static int put(Open open, int register, Object number) {
        open.registers[register] = number;
        if (number instanceof Long || number instanceof Double) {
            open.registers[register + 1] = SECOND;
            return register + 2;
        }
        return register + 1;
    }

    int openCalls() {
        return state == 1 ? calls.size() : 0;
    }

    int at(int k) {
        return state == 1 && k >= 0 && k < calls.size() ? calls.get(calls.size() - 1 - k).unit : -1;
    }

    int run(int n) {
        for (int i = 0; i < n; i++) {
            if (state != 1) {
                return i;
            }
            step(calls.get(calls.size() - 1));
            if (thrown != null) {
                state = 3;
                return -1;
            }
        }
        return n;
    }

    private void step(Open open) {
        Made m = open.method;
        int unit = open.unit;
        int op = op(m, unit);
        open.unit = unit + length(op);
        Object b = null;
        Object c = null;
        Object d = null;
        if (operands(op).contains("B:")) {
            b = open.registers[register(m, unit, 'B')];
        }
        if (operands(op).contains("C:")) {
            c = open.registers[register(m, unit, 'C')];
            d = open.registers[register(m, unit, 'D')];
        }
        if (op >= 14 && op <= 16) {
            result = op == 14 ? null : open.registers[register(m, unit, 'U')];
            calls.remove(calls.size() - 1);
            state = calls.isEmpty() ? 2 : 1;
        } else if (op == 40) {
            open.unit = unit + (byte) (m.units[unit] >> 8);
        } else if (op >= 50 && op <= 61) {
            int left = (Integer) open.registers[register(m, unit, op <= 55 ? 'V' : 'U')];
            int right = op <= 55 ? (Integer) b : 0;
            if (holds(op <= 55 ? op - 50 : op - 56, left, right)) {
                open.unit = unit + (short) m.units[unit + 1];
            }
        } else if (op == 103) {
            fields[m.units[unit + 1]] = (Integer) open.registers[register(m, unit, 'U')];
        } else if (op == 113) {
            enter(open, unit);
        } else if (op != 0) {
            Object number = b != null ? ofOne(op, b) : c != null ? ofTwo(op, c, d)
                : isResult(m, unit) ? result : constant(m, unit);
            if (thrown == null) {
                boolean four = operands(op).startsWith("A");
                put(open, register(m, unit, four ? 'A' : 'S'), number);
            }
        }
    }

    private Object constant(Made m, int unit) {
        int op = op(m, unit);
        if (op == 18) {
            return m.units[unit] << 16 >> 28;
        }
        if (op == 96) {
            return fields[m.units[unit + 1]];
        }
        return op == 19 ? (Object) (int) (short) m.units[unit + 1] : (Object) (long) (short) m.units[unit + 1];
    }

    private void enter(Open open, int unit) {
        if (calls.size() == 6) {
            thrown = UnsupportedOperationException.class;
            return;
        }
        Made called = methods.get(open.method.units[unit + 1]);
        Open next = new Open(called);
        int word = 0;
        for (int type : called.parameters) {
            Object number = open.registers[open.method.units[unit + 2] >> 4 * word & 15];
            put(next, called.registers - called.words() + word, number);
            word += width(type);
        }
        calls.add(next);
    }

    private static boolean holds(int test, int a, int b) {
        return new boolean[] {a == b, a != b, a < b, a >= b, a > b, a <= b}[test];
    }

    private static Object ofOne(int op, Object b) {
        switch (op) {
            case 1: case 4: return b;
            case 123: return -(Integer) b;
            case 125: return -(Long) b;
            case 127: return -(Float) b;
            case 128: return -(Double) b;
            case 129: return (long) (Integer) b;
            case 130: return (float) (Integer) b;
            case 131: return (double) (Integer) b;
            case 132: return (int) (long) (Long) b;
            case 133: return (float) (Long) b;
            case 134: return (double) (Long) b;
            case 135: return (int) (float) (Float) b;
            case 136: return (long) (float) (Float) b;
            case 137: return (double) (Float) b;
            case 138: return (int) (double) (Double) b;
            case 139: return (long) (double) (Double) b;
            default: return (float) (double) (Double) b;
        }
    }

    private Object ofTwo(int op, Object c, Object d) {
        if (op == 45 || op == 47 || op == 49) {
            double left = op == 49 ? 0 : ((Number) c).doubleValue();
            double right = op == 49 ? 0 : ((Number) d).doubleValue();
            return op == 49 ? (Object) Long.signum(Long.compare((Long) c, (Long) d))
                : (Object) (left < right ? -1 : left == right ? 0 : 1);
        }
        if (op <= 154) {
            return ofInts(op, (Integer) c, (Integer) d);
        }
        if (op <= 159) {
            return ofLongs(op, (Long) c, (Long) d);
        }
        if (op <= 169) {
            float x = (Float) c;
            float y = (Float) d;
            float v = op == 166 ? x + y : op == 167 ? x - y : op == 168 ? x * y : y == 0 ? 0 : x / y;
            return Math.abs(v) > GREATEST ? 0.0f : v;
        }
        double x = (Double) c;
        double y = (Double) d;
        double v = op == 171 ? x + y : op == 172 ? x - y : op == 173 ? x * y : y == 0 ? 0 : x / y;
        return Math.abs(v) > GREATEST ? 0.0 : v;
    }

    private Integer ofInts(int op, int c, int d) {
        if ((op == 147 || op == 148) && d == 0) {
            thrown = ArithmeticException.class;
            return 0;
        }
        switch (op) {
            case 144: return c + d;
            case 145: return c - d;
            case 146: return c * d;
            case 147: return (int) ((long) c / d);
            case 148: return (int) ((long) c % d);
            case 149: return c & d;
            case 150: return c | d;
            case 151: return c ^ d;
            case 152: return c << d;
            case 153: return c >> d;
            default: return c >>> d;
        }
    }

    private Long ofLongs(int op, long c, long d) {
        if ((op == 158 || op == 159) && d == 0) {
            thrown = ArithmeticException.class;
            return 0L;
        }
        switch (op) {
            case 155: return c + d;
            case 156: return c - d;
            case 157: return c * d;
            case 158: return c / d;
            default: return c % d;
        }
    }
}
