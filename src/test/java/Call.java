import java.lang.reflect.InvocationTargetException;
import java.lang.reflect.Method;
import java.util.ArrayList;
import java.util.HashMap;
import java.util.List;
import java.util.Map;
import java.util.Set;

/** One call of the face, by its name and its arguments, which any object with that face can answer. */
final class Call {
    private static final Set<String> LOOKING = Set.of("place", "told", "half", "sum", "as", "check", "status");

    /** Asking a class for its methods is dear, and tests make millions of calls. */
    private static final Map<Class<?>, Map<String, Method>> METHODS = new HashMap<>();

    final String name;
    private final List<Number> arguments = new ArrayList<>();

    Call(String name, Number... arguments) {
        this.name = name;
        this.arguments.addAll(List.of(arguments));
    }

    /** From a text like "gold(3, 20.5, 1000)". */
    static Call read(String text) {
        int open = text.indexOf('(');
        int close = text.lastIndexOf(')');
        if (open < 1 || close < open) {
            throw new IllegalArgumentException("no call: " + text);
        }
        Call call = new Call(text.substring(0, open).trim());
        String inside = text.substring(open + 1, close).trim();
        String[] written = inside.isEmpty() ? new String[0] : inside.split(",");
        Class<?>[] types = call.find(PledgeHouse.class).getParameterTypes();
        if (types.length != written.length) {
            throw new IllegalArgumentException("not as many arguments as due: " + text);
        }
        for (int i = 0; i < types.length; i++) {
            String argument = written[i].trim();
            if (types[i] == float.class) {
                call.arguments.add(Float.valueOf(argument));
            } else {
                call.arguments.add(Integer.valueOf(argument));
            }
        }
        return call;
    }

    boolean isLooking() {
        return LOOKING.contains(name);
    }

    private Method find(Class<?> type) {
        Method method = METHODS.computeIfAbsent(type, Call::methodsOf).get(name);
        if (method == null) {
            throw new IllegalArgumentException("no method " + name);
        }
        return method;
    }

    private static Map<String, Method> methodsOf(Class<?> type) {
        Map<String, Method> methods = new HashMap<>();
        for (Method method : type.getDeclaredMethods()) {
            if (!method.isSynthetic()) {
                method.setAccessible(true);
                methods.put(method.getName(), method);
            }
        }
        return methods;
    }

    /** What the object answers; what it throws is told as a text. */
    String answerOf(Object house) {
        try {
            return String.valueOf(find(house.getClass()).invoke(house, arguments.toArray()));
        } catch (InvocationTargetException thrown) {
            return "thrown " + thrown.getCause();
        } catch (IllegalAccessException hidden) {
            throw new IllegalStateException(hidden);
        }
    }

    @Override
    public String toString() {
        StringBuilder text = new StringBuilder(name).append('(');
        for (int i = 0; i < arguments.size(); i++) {
            text.append(i > 0 ? ", " : "").append(arguments.get(i));
        }
        return text.append(')').toString();
    }
}
