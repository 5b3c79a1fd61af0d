import java.lang.reflect.Field;
import java.lang.reflect.Method;
import java.lang.reflect.Modifier;
import java.util.ArrayList;
import java.util.List;
import java.util.Set;

/** What of LANGUAGE.md can be seen in the compiled class: rules 1, 2, 5 and 11. */
public final class LanguageTest {
    private static final Set<Class<?>> CONSTANT_TYPES = Set.of(int.class, long.class, boolean.class, char.class, String.class,
        int[].class, long[].class, char[].class, byte[].class);

    private static int wrong;

    public static void main(String[] arguments) {
        List<Class<?>> classes = new ArrayList<>(List.of(PledgeHouse.class.getDeclaredClasses()));
        for (Class<?> inside : classes) {
            due("static and not seen from outside: " + inside, Modifier.isStatic(inside.getModifiers())
                && !Modifier.isPublic(inside.getModifiers()) && !Modifier.isProtected(inside.getModifiers()));
        }
        classes.add(PledgeHouse.class);
        due("some twelve classes", classes.size() <= 12);
        for (Class<?> each : classes) {
            lookAtFields(each);
            lookAtMethods(each);
        }
        System.out.println(wrong == 0 ? "the language is as due" : wrong + " faults of the language");
        if (wrong != 0) {
            System.exit(1);
        }
    }

    private static void lookAtFields(Class<?> each) {
        int count = 0;
        for (Field field : each.getDeclaredFields()) {
            if (Modifier.isStatic(field.getModifiers())) {
                due("a constant: " + field, Modifier.isFinal(field.getModifiers()) && CONSTANT_TYPES.contains(field.getType()));
            } else {
                count++;
            }
        }
        due("some twenty fields: " + each, count <= 20);
    }

    private static void lookAtMethods(Class<?> each) {
        for (Method method : each.getDeclaredMethods()) {
            due("no lambda: " + method, !method.isSynthetic());
            due("seven parameters at most: " + method, method.getParameterCount() <= 7);
            due("no equals, hashCode, toString: " + method, !Set.of("equals", "hashCode", "toString").contains(method.getName()));
            due("a name of the face is the face's alone: " + method, each == PledgeHouse.class || !isOfTheFace(method.getName()));
        }
    }

    private static boolean isOfTheFace(String name) {
        for (Method method : PledgeHouse.class.getMethods()) {
            if (method.getDeclaringClass() == PledgeHouse.class && method.getName().equals(name)) {
                return true;
            }
        }
        return false;
    }

    private static void due(String what, boolean holds) {
        if (!holds) {
            wrong++;
            System.out.println("does not hold: " + what);
        }
    }
}
