import com.sun.management.ThreadMXBean;
import java.lang.management.ManagementFactory;
import java.lang.reflect.Array;
import java.lang.reflect.Field;
import java.lang.reflect.Modifier;
import java.util.ArrayDeque;
import java.util.Collections;
import java.util.Deque;
import java.util.IdentityHashMap;
import java.util.Set;

/** All calls of a run have one room: a machine is small, and its calls make nothing new. */
public final class RoomTest {
    private static final int MOST_OBJECTS = 1_000;
    private static final int MOST_PARTS = 12_000;

    private static final int WARM_ROUNDS = 200;
    private static final int MEASURED_ROUNDS = 50;

    private final Set<Object> seen = Collections.newSetFromMap(new IdentityHashMap<>());
    private final Deque<Object> ahead = new ArrayDeque<>();
    private int parts = 0;

    public static void main(String[] args) throws IllegalAccessException {
        Checks checks = new Checks();
        madeOfLittle(checks);
        callsMakeNothing(checks);
        checks.end("RoomTest");
    }

    private static void madeOfLittle(Checks checks) throws IllegalAccessException {
        PairVm vm = new PairVm();
        RoomTest fresh = new RoomTest();
        fresh.count(vm);
        System.out.println(fresh.seen.size() + " objects, " + fresh.parts + " fields and elements");
        checks.same("few objects", fresh.seen.size() <= MOST_OBJECTS, true);
        checks.same("few fields and elements", fresh.parts <= MOST_PARTS, true);
        round(vm, file());
        checks.same("what was called has returned", vm.state(), 2);
        RoomTest used = new RoomTest();
        used.count(vm);
        checks.same("objects after some calls", used.seen.size(), fresh.seen.size());
        checks.same("fields and elements after some calls", used.parts, fresh.parts);
    }

    private void count(Object first) throws IllegalAccessException {
        see(first);
        while (!ahead.isEmpty()) {
            Object object = ahead.pop();
            if (object.getClass().isArray()) {
                countElements(object);
            } else {
                countFields(object);
            }
        }
    }

    private void countElements(Object array) {
        parts += Array.getLength(array);
        if (!array.getClass().getComponentType().isPrimitive()) {
            for (Object element : (Object[]) array) {
                see(element);
            }
        }
    }

    private void countFields(Object object) throws IllegalAccessException {
        for (Field field : object.getClass().getDeclaredFields()) {
            if (!Modifier.isStatic(field.getModifiers())) {
                parts++;
                if (!field.getType().isPrimitive()) {
                    field.setAccessible(true);
                    see(field.get(object));
                }
            }
        }
    }

    private void see(Object object) {
        if (object != null && seen.add(object)) {
            ahead.push(object);
        }
    }

    /** The least of many rounds: what the Java machine makes for itself, it makes but now and then. */
    private static void callsMakeNothing(Checks checks) {
        if (!(ManagementFactory.getThreadMXBean() instanceof ThreadMXBean)) {
            System.out.println("this Java doesn't tell what a thread makes");
            return;
        }
        ThreadMXBean bean = (ThreadMXBean) ManagementFactory.getThreadMXBean();
        if (!bean.isThreadAllocatedMemorySupported() || !bean.isThreadAllocatedMemoryEnabled()) {
            System.out.println("this Java doesn't tell what a thread makes");
            return;
        }
        int[] bytes = file();
        long least = Long.MAX_VALUE;
        long answers = 0;
        for (int i = 0; i < WARM_ROUNDS + MEASURED_ROUNDS; i++) {
            PairVm vm = new PairVm();
            long before = bean.getCurrentThreadAllocatedBytes();
            answers += round(vm, bytes);
            long made = bean.getCurrentThreadAllocatedBytes() - before;
            if (i >= WARM_ROUNDS && made < least) {
                least = made;
            }
        }
        checks.same("bytes that a round of calls makes", least, 0);
        checks.same("all rounds answer the same",
            answers % (WARM_ROUNDS + MEASURED_ROUNDS), 0);
    }

    /** Each call of the face, many of them often; none that throws. What they answered, added up. */
    private static long round(PairVm vm, int[] bytes) {
        long sum = 0;
        for (int load = 0; load < 3; load++) {
            for (int b : bytes) {
                sum += vm.put(b) ? 1 : 0;
            }
            sum += vm.seal() + vm.place() + vm.verify(0) + vm.verify(9) + vm.type(0, 0, 0);
            for (int depth = 2; depth <= 5; depth++) {
                sum += vm.pass(1, depth) ? 1 : 0;
                sum += vm.passReal(4, 0.5) ? 1 : 0;
                sum += vm.passReal(3, -1.5) ? 1 : 0;
                sum += vm.pass(2, 0) ? 1 : 0;
                vm.call(0);
                sum += vm.run(15) + vm.calls() + vm.at(0) + vm.at(7) + vm.field(0);
                sum += vm.run(200) + vm.state() + vm.value() + (long) vm.real();
            }
        }
        return sum;
    }

    /** A method that calls itself, with one less than its INT, until that would be below 0. */
    private static int[] file() {
        return Code.methods(1, 1).method(Code.DOUBLE,
            Code.types(Code.INT, Code.DOUBLE, Code.FLOAT), 8,
            Code.aa(19, 0), 1,
            Code.aa(145, 4), Code.cd(4, 0),
            Code.aa(103, 4), 0,
            Code.aa(58, 4), 8,
            Code.ab(113, 0, 4), 0, Code.names(4, 5, 6, 7),
            Code.aa(11, 2),
            Code.aa(171, 5), Code.cd(5, 2),
            Code.ab(137, 2, 7),
            Code.aa(173, 5), Code.cd(5, 2),
            Code.aa(16, 5)).toBytes();
    }
}
