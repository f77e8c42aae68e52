import java.lang.reflect.Constructor;
import java.lang.reflect.Field;
import java.lang.reflect.Method;
import java.lang.reflect.Modifier;
import java.util.Set;
import java.util.TreeSet;

/** The class shows what the document's face has, and nothing else; promise 1. */
public final class FaceTest {
    public static void main(String[] args) {
        Checks checks = new Checks();
        face(checks);
        newObject(checks);
        checks.end("FaceTest");
    }

    private static void face(Checks checks) {
        Set<String> due = new TreeSet<>(Set.of(
            "boolean put(int)", "int seal()", "int load()", "int place()", "int verify(int)",
            "int type(int,int,int)", "boolean pass(int,long)", "boolean passReal(int,double)",
            "void call(int)", "int run(int)", "int state()", "long value()", "double real()",
            "int calls()", "int at(int)", "int field(int)"));
        Set<String> got = new TreeSet<>();
        Set<String> names = new TreeSet<>();
        for (Method method : PairVm.class.getDeclaredMethods()) {
            if (Modifier.isPublic(method.getModifiers())) {
                got.add(told(method));
                names.add(method.getName());
            }
        }
        for (Method method : PairVm.class.getDeclaredMethods()) {
            if (!Modifier.isPublic(method.getModifiers()) && !method.isSynthetic()) {
                checks.same(method + " is private", Modifier.isPrivate(method.getModifiers()), true);
                checks.same(method + " bears a public name", names.contains(method.getName()), false);
            }
        }
        checks.same("the public methods " + got, got.equals(due), true);
        for (Field field : PairVm.class.getDeclaredFields()) {
            boolean isNone = field.getName().equals("NONE");
            checks.same(field + " is public", Modifier.isPublic(field.getModifiers()), isNone);
            checks.same(field + " is private", Modifier.isPrivate(field.getModifiers()), !isNone);
        }
        for (Constructor<?> constructor : PairVm.class.getDeclaredConstructors()) {
            checks.same("the constructor is public",
                Modifier.isPublic(constructor.getModifiers()), true);
            checks.same("its parameters", constructor.getParameterCount(), 0);
        }
        checks.same("the class is final", Modifier.isFinal(PairVm.class.getModifiers()), true);
        checks.same("NONE", PairVm.NONE, -1);
    }

    private static String told(Method method) {
        StringBuilder text = new StringBuilder();
        text.append(method.getReturnType()).append(' ').append(method.getName()).append('(');
        for (Class<?> type : method.getParameterTypes()) {
            text.append(text.charAt(text.length() - 1) == '(' ? "" : ",").append(type);
        }
        return text.append(')').toString();
    }

    private static void newObject(Checks checks) {
        PairVm vm = new PairVm();
        checks.same("place", vm.place(), PairVm.NONE);
        checks.same("state", vm.state(), 0);
        checks.same("value", vm.value(), 0);
        checks.sameReal("real", vm.real(), 0.0);
        checks.same("calls", vm.calls(), 0);
        checks.same("verify", vm.verify(0), -2);
        checks.same("type", vm.type(0, 0, 0), PairVm.NONE);
        checks.same("at", vm.at(0), PairVm.NONE);
        for (int k = -1; k <= 4; k++) {
            checks.same("field " + k, vm.field(k), 0);
        }
        checks.thrown("run(0)", IllegalStateException.class, () -> vm.run(0));
        checks.thrown("call(0)", IllegalArgumentException.class, () -> vm.call(0));
        checks.thrown("load()", IllegalArgumentException.class, vm::load);
        checks.same("without bytes: at 0", vm.place(), 0);
        PairVm other = new PairVm();
        checks.thrown("seal()", IllegalArgumentException.class, other::seal);
        checks.same("the head alone", other.place(), 8);
    }
}
