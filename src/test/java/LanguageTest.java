import java.io.IOException;
import java.lang.reflect.Field;
import java.lang.reflect.Method;
import java.lang.reflect.Modifier;
import java.nio.file.Files;
import java.nio.file.Path;
import java.util.ArrayList;
import java.util.List;
import java.util.Set;
import java.util.regex.Matcher;
import java.util.regex.Pattern;

/** What of LANGUAGE.md can be seen in the compiled class (rules 1, 2, 5, 11) and in its source (2, 4, 6, 11). */
public final class LanguageTest {
    private static final Set<Class<?>> CONSTANT_TYPES = Set.of(int.class, long.class, boolean.class, char.class, String.class,
        int[].class, long[].class, char[].class, byte[].class);

    /** The document wants no exception, so there is none to be thrown or caught. */
    private static final Pattern BANNED = Pattern.compile("\\b(import|package|try|catch|finally|throw|throws|synchronized|assert|"
        + "double|strictfp|native|volatile|var)\\b|->|::|[^\\x00-\\x7f]");
    private static final Pattern LIBRARY = Pattern.compile("\\b(Math|System|Integer|Long|Arrays|Float|Double|Object|Class|Thread)\\b(\\.\\w+)?");
    private static final Set<String> LIBRARY_USED = Set.of("Math.max", "Math.min", "System.arraycopy");
    private static final int LONGEST_METHOD = 60;

    private static int wrong;

    public static void main(String[] arguments) throws IOException {
        lookAtSource(Files.readAllLines(Path.of(arguments[0], "..", "main", "java", "PledgeHouse.java")));
        List<Class<?>> classes = new ArrayList<>(List.of(PledgeHouse.class.getDeclaredClasses()));
        for (Class<?> inside : classes) {
            due("static and not seen from outside: " + inside, Modifier.isStatic(inside.getModifiers())
                && !Modifier.isPublic(inside.getModifiers()) && !Modifier.isProtected(inside.getModifiers()));
        }
        classes.add(PledgeHouse.class);
        due("some twelve classes", classes.size() <= 12);
        for (Class<?> each : classes) {
            lookAtFields(each);
            lookAtMethods(each);
        }
        System.out.println(wrong == 0 ? "the language is as due" : wrong + " faults of the language");
        if (wrong != 0) {
            System.exit(1);
        }
    }

    private static void lookAtSource(List<String> lines) {
        int began = 0;
        for (int i = 0; i < lines.size(); i++) {
            String line = lines.get(i);
            if (!line.trim().startsWith("*") && !line.trim().startsWith("/")) {
                lookAtLine(i + 1, line);
            }
            if (line.matches(" {4,8}\\S.*\\) \\{")) {
                began = i;
            } else if (line.matches(" {4,8}}")) {
                due("a short method, ending in line " + (i + 1), i - began < LONGEST_METHOD || isEndOfClass(lines, i));
            }
        }
    }

    /** A class inside ends with the indent of a method of the face, behind the end of a method of its own. */
    private static boolean isEndOfClass(List<String> lines, int at) {
        return lines.get(at).equals("    }") && at > 0 && lines.get(at - 1).equals("        }");
    }

    private static void lookAtLine(int number, String line) {
        Matcher banned = BANNED.matcher(line);
        if (banned.find()) {
            due("line " + number + " without " + banned.group(), false);
        }
        Matcher library = LIBRARY.matcher(line);
        while (library.find()) {
            due("line " + number + ", of the library: " + library.group(), LIBRARY_USED.contains(library.group()));
        }
    }

    private static void lookAtFields(Class<?> each) {
        int count = 0;
        for (Field field : each.getDeclaredFields()) {
            if (Modifier.isStatic(field.getModifiers())) {
                due("a constant: " + field, Modifier.isFinal(field.getModifiers()) && CONSTANT_TYPES.contains(field.getType()));
            } else {
                count++;
            }
        }
        due("some twenty fields: " + each, count <= 20);
    }

    private static void lookAtMethods(Class<?> each) {
        for (Method method : each.getDeclaredMethods()) {
            due("no lambda: " + method, !method.isSynthetic());
            due("seven parameters at most: " + method, method.getParameterCount() <= 7);
            due("no equals, hashCode, toString: " + method, !Set.of("equals", "hashCode", "toString").contains(method.getName()));
            due("a name of the face is the face's alone: " + method, each == PledgeHouse.class || !isOfTheFace(method.getName()));
        }
    }

    private static boolean isOfTheFace(String name) {
        for (Method method : PledgeHouse.class.getMethods()) {
            if (method.getDeclaringClass() == PledgeHouse.class && method.getName().equals(name)) {
                return true;
            }
        }
        return false;
    }

    private static void due(String what, boolean holds) {
        if (!holds) {
            wrong++;
            System.out.println("does not hold: " + what);
        }
    }
}
