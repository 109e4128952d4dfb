import java.lang.reflect.Constructor;
import java.lang.reflect.Field;
import java.lang.reflect.Method;
import java.lang.reflect.Modifier;
import java.util.Set;
import java.util.TreeSet;

/** The public face: every constant, constructor and method of the document, and nothing else. */
public final class FaceTest {
    private static final Set<String> METHODS = Set.of(
            "addServer/0", "add/3", "finish/1", "setBudget/1", "setFactor/1", "move/2", "exchange/2",
            "ring/3", "even/1", "close/1", "open/1", "undo/0", "append/1", "clearText/0", "run/0",
            "count/1", "server/2", "job/2", "leaving/2", "step/1", "plan/1", "fewest/1", "without/1");

    public static void main(String[] args) {
        constants();
        methods();
        Due.end();
    }

    private static void constants() {
        Due.due("INVALID_ARGUMENT", EvenLoads.INVALID_ARGUMENT, -1);
        Due.due("ILLEGAL_STATE", EvenLoads.ILLEGAL_STATE, -2);
        Due.due("CAPACITY_EXCEEDED", EvenLoads.CAPACITY_EXCEEDED, -3);
        Due.due("NONE", EvenLoads.NONE, -9);
        Set<String> seen = new TreeSet<>();
        for (Field field : EvenLoads.class.getDeclaredFields()) {
            int modifiers = field.getModifiers();
            if (!Modifier.isPrivate(modifiers)) {
                seen.add(field.getName());
            }
            if (Modifier.isStatic(modifiers)) {
                Due.due("final " + field.getName(), Modifier.isFinal(modifiers));
            }
        }
        Set<String> named = Set.of("INVALID_ARGUMENT", "ILLEGAL_STATE", "CAPACITY_EXCEEDED", "NONE");
        Due.same("constants", seen.toString(), new TreeSet<>(named).toString());
    }

    private static void methods() {
        Due.due("public final", EvenLoads.class.getModifiers(), Modifier.PUBLIC | Modifier.FINAL);
        Set<String> seen = new TreeSet<>();
        Set<String> names = new TreeSet<>();
        for (Method method : EvenLoads.class.getDeclaredMethods()) {
            if (Modifier.isPublic(method.getModifiers())) {
                seen.add(method.getName() + "/" + method.getParameterCount());
                names.add(method.getName());
                Due.due("int " + method.getName(), method.getReturnType() == int.class);
            }
        }
        Due.same("methods", seen.toString(), new TreeSet<>(METHODS).toString());
        for (Method method : EvenLoads.class.getDeclaredMethods()) {
            if (!Modifier.isPublic(method.getModifiers())) {
                Due.due("private " + method.getName(), Modifier.isPrivate(method.getModifiers()));
                Due.due("a name of its own: " + method.getName(), !names.contains(method.getName()));
            }
        }
        inside(names);
        Constructor<?>[] constructors = EvenLoads.class.getDeclaredConstructors();
        Due.due("constructors", constructors.length, 1);
        Due.due("its parameters", constructors[0].getParameterCount(), 0);
        Due.due("public constructor", Modifier.isPublic(constructors[0].getModifiers()));
    }

    /** The classes inside: what they are, and that their methods bear none of the names of the face. */
    private static void inside(Set<String> names) {
        for (Class<?> inner : EvenLoads.class.getDeclaredClasses()) {
            int modifiers = inner.getModifiers();
            boolean isHidden = !Modifier.isPublic(modifiers) && !Modifier.isProtected(modifiers);
            Due.due("static and not seen from outside: " + inner.getName(), Modifier.isStatic(modifiers) && isHidden);
            for (Method method : inner.getDeclaredMethods()) {
                Due.due("a name of its own: " + method.getName(), !names.contains(method.getName()));
            }
        }
    }
}
