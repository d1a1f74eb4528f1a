import java.lang.reflect.InvocationTargetException;
import java.lang.reflect.Method;
import java.util.Arrays;

/** The calls of the document's face by their numbers here, for the program and for any class of the same face. */
final class Calls {
    static final String[] NAMES = {"board", "table", "drying", "against", "mixed", "lots", "minutes", "cut", "saw",
        "piece", "cell", "islands", "joined", "sheets", "pull", "blend", "colour", "led", "good", "book", "free",
        "wanted", "want", "fewest", "order", "place", "why", "alike", "made", "begin", "shows", "count"};

    private final Method[] methods = new Method[NAMES.length];

    Calls(Class<?> type) {
        for (Method method : type.getDeclaredMethods()) {
            int which = Arrays.asList(NAMES).indexOf(method.getName());
            if (which >= 0) {
                methods[which] = method;
            }
        }
    }

    int parameters(int which) {
        return methods[which].getParameterCount();
    }

    /** What is told beyond the call's own parameters is left away. */
    int ask(Object x, int which, int... told) {
        Object[] given = new Object[parameters(which)];
        for (int k = 0; k < given.length; k++) {
            given[k] = told[k];
        }
        try {
            return (Integer) methods[which].invoke(x, given);
        } catch (InvocationTargetException thrown) {
            throw new AssertionError(text(which, told) + " threw", thrown.getCause());
        } catch (IllegalAccessException hidden) {
            throw new AssertionError(NAMES[which] + " cannot be called", hidden);
        }
    }

    String text(int which, int... told) {
        String list = Arrays.toString(Arrays.copyOf(told, parameters(which)));
        return NAMES[which] + "(" + list.substring(1, list.length() - 1) + ")";
    }
}
