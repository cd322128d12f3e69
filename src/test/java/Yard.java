import java.lang.reflect.InvocationTargetException;
import java.lang.reflect.Method;
import java.util.Arrays;
import java.util.HashMap;
import java.util.Map;

/** A LoadYard whose calls are made by name, and counted: the document promises 512 of them and no more. */
final class Yard {
    static final int MOST_CALLS = 512;

    private static final Map<String, Method> CALLS = new HashMap<>();

    static {
        for (Method m : LoadYard.class.getMethods()) {
            if (m.getDeclaringClass() == LoadYard.class) {
                CALLS.put(m.getName(), m);
            }
        }
    }

    private final LoadYard inside = new LoadYard();
    private int calls = 0;

    static String told(String call, int... a) {
        String numbers = Arrays.toString(a);
        return call + "(" + numbers.substring(1, numbers.length() - 1) + ")";
    }

    int callsLeft() {
        return MOST_CALLS - calls;
    }

    int ask(String call, int... a) {
        calls++;
        if (calls > MOST_CALLS) {
            throw new IllegalStateException("the test makes more than " + MOST_CALLS + " calls on one object");
        }
        try {
            return (Integer) CALLS.get(call).invoke(inside, Arrays.stream(a).boxed().toArray());
        } catch (InvocationTargetException | IllegalAccessException e) {
            throw new IllegalStateException(told(call, a) + " threw", e);
        }
    }

    /** To build with: a refusal there means that the yard isn't the one that the test is about. */
    Yard with(String call, int... a) {
        int got = ask(call, a);
        if (got < 0) {
            throw new IllegalStateException(told(call, a) + " was refused by " + got);
        }
        return this;
    }
}
