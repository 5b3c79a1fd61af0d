import java.lang.reflect.InvocationTargetException;
import java.lang.reflect.Method;
import java.util.ArrayList;
import java.util.List;

/** One call of the face, by its name and its arguments, which any object with that face can answer. */
final class Call {
    private final String name;
    private final List<Number> arguments = new ArrayList<>();

    Call(String name, Number... arguments) {
        this.name = name;
        this.arguments.addAll(List.of(arguments));
    }

    /** From a text like "gold(3, 20.5, 1000)". */
    static Call read(String text) {
        int open = text.indexOf('(');
        int close = text.lastIndexOf(')');
        if (open < 1 || close < open) {
            throw new IllegalArgumentException("no call: " + text);
        }
        Call call = new Call(text.substring(0, open).trim());
        String inside = text.substring(open + 1, close).trim();
        if (inside.isEmpty()) {
            return call;
        }
        Class<?>[] types = call.find(PledgeHouse.class, inside.split(",").length).getParameterTypes();
        int at = 0;
        for (String argument : inside.split(",")) {
            boolean isFloat = types[at++] == float.class;
            if (isFloat) {
                call.arguments.add(Float.valueOf(argument.trim()));
            } else {
                call.arguments.add(Integer.valueOf(argument.trim()));
            }
        }
        return call;
    }

    private Method find(Class<?> type, int count) {
        for (Method method : type.getDeclaredMethods()) {
            if (method.getName().equals(name) && method.getParameterCount() == count) {
                return method;
            }
        }
        throw new IllegalArgumentException("no method " + name + " with " + count + " arguments");
    }

    /** What the object answers; what it throws is told as a text. */
    String answerOf(Object house) {
        try {
            Method method = find(house.getClass(), arguments.size());
            method.setAccessible(true);
            return String.valueOf(method.invoke(house, arguments.toArray()));
        } catch (InvocationTargetException thrown) {
            return "thrown " + thrown.getCause();
        } catch (IllegalAccessException hidden) {
            throw new IllegalStateException(hidden);
        }
    }

    @Override
    public String toString() {
        StringBuilder text = new StringBuilder(name).append('(');
        for (int i = 0; i < arguments.size(); i++) {
            text.append(i > 0 ? ", " : "").append(arguments.get(i));
        }
        return text.append(')').toString();
    }
}
