import java.lang.reflect.Constructor;
import java.lang.reflect.Field;
import java.lang.reflect.Method;
import java.lang.reflect.Modifier;
import java.util.HashSet;
import java.util.Set;
import java.util.TreeSet;

/** The class has the document's face, no other member that can be seen from outside, and the sizes of rule 11. */
public final class FaceTest {
    private static final String[] METHODS = {
        "int machine(int int) IllegalArgumentException IllegalStateException",
        "int program(int) IllegalStateException",
        "int word(int int int int int int) IllegalStateException IllegalArgumentException"
            + " UnsupportedOperationException",
        "int run(int) IllegalStateException",
        "int step(int int) IllegalStateException IllegalArgumentException",
        "int core(int int int int int) IllegalStateException IllegalArgumentException",
        "int change(int int int int int) IllegalStateException IllegalArgumentException",
        "int sim(int int) IllegalStateException",
        "int cycles(int int) IllegalStateException IllegalArgumentException",
        "int state(int int) IllegalStateException IllegalArgumentException",
        "long number(int int) IllegalStateException IllegalArgumentException",
        "boolean agrees(int int) IllegalStateException",
        "int pair(int int int) IllegalStateException IllegalArgumentException",
        "int explore(int int) IllegalStateException IllegalArgumentException",
        "long end(int int int) IllegalStateException IllegalArgumentException IndexOutOfBoundsException",
        "int drop(int) IllegalStateException",
        "int kind(int)",
        "int rule()",
        "int count(int)",
    };

    public static void main(String[] args) {
        Check check = new Check();
        int modifiers = ProcessorHouse.class.getModifiers();
        check.due("public", 1, Modifier.isPublic(modifiers) ? 1 : 0);
        check.due("final", 1, Modifier.isFinal(modifiers) ? 1 : 0);
        check.due("NONE", -1, ProcessorHouse.NONE);
        methods(check);
        fields(check);
        Constructor<?>[] constructors = ProcessorHouse.class.getDeclaredConstructors();
        check.due("constructors", 1, constructors.length);
        check.due("the constructor's parameters", 0, constructors[0].getParameterCount());
        check.due("the constructor is public", 1, Modifier.isPublic(constructors[0].getModifiers()) ? 1 : 0);
        sizes(check, ProcessorHouse.class);
        for (Class<?> inside : ProcessorHouse.class.getDeclaredClasses()) {
            sizes(check, inside);
            if (!Modifier.isStatic(inside.getModifiers()) || Modifier.isPublic(inside.getModifiers())) {
                check.tell(inside + " is not static, or public");
            }
        }
        check.done();
    }

    private static void sizes(Check check, Class<?> owner) {
        int fields = 0;
        for (Field field : owner.getDeclaredFields()) {
            fields += Modifier.isStatic(field.getModifiers()) ? 0 : 1;
        }
        check.due("at most 20 fields in " + owner.getSimpleName(), 1, fields <= 20 ? 1 : 0);
        for (Method method : owner.getDeclaredMethods()) {
            check.due("at most 7 parameters of " + method.getName(), 1, method.getParameterCount() <= 7 ? 1 : 0);
        }
        for (Constructor<?> constructor : owner.getDeclaredConstructors()) {
            check.due("at most 7 parameters", 1, constructor.getParameterCount() <= 7 ? 1 : 0);
        }
    }

    private static void methods(Check check) {
        Set<String> seen = new TreeSet<>();
        Set<String> names = new HashSet<>();
        for (Method method : ProcessorHouse.class.getDeclaredMethods()) {
            if (!Modifier.isPrivate(method.getModifiers())) {
                seen.add(written(method));
                names.add(method.getName());
            }
        }
        Set<String> want = new TreeSet<>(Set.of(METHODS));
        if (!seen.equals(want)) {
            check.tell("the methods are " + seen + ", due are " + want);
        }
        for (Method method : ProcessorHouse.class.getDeclaredMethods()) {
            if (Modifier.isPrivate(method.getModifiers()) && names.contains(method.getName())) {
                check.tell("a private method bears the public name " + method.getName());
            }
        }
    }

    private static void fields(Check check) {
        for (Field field : ProcessorHouse.class.getDeclaredFields()) {
            boolean isNone = field.getName().equals("NONE") && Modifier.isPublic(field.getModifiers());
            if (!isNone && !Modifier.isPrivate(field.getModifiers())) {
                check.tell("field " + field.getName() + " is not private");
            }
            if (Modifier.isStatic(field.getModifiers()) && !Modifier.isFinal(field.getModifiers())) {
                check.tell("field " + field.getName() + " is static and not final");
            }
        }
    }

    private static String written(Method method) {
        StringBuilder text = new StringBuilder();
        text.append(method.getReturnType().getName()).append(' ').append(method.getName()).append('(');
        for (int k = 0; k < method.getParameterCount(); k++) {
            text.append(k == 0 ? "" : " ").append(method.getParameterTypes()[k].getName());
        }
        text.append(')');
        for (Class<?> thrown : method.getExceptionTypes()) {
            text.append(' ').append(thrown.getSimpleName());
        }
        return text.toString();
    }
}
