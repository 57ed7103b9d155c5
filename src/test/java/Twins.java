import java.lang.reflect.InvocationTargetException;
import java.lang.reflect.Method;
import java.util.Arrays;
import java.util.HashMap;
import java.util.Map;

/** A new object of the program and a new model, which are asked the same and have to answer the same. */
final class Twins {
    static final int MOST_CALLS = 512;

    private static final Map<String, Method> PROGRAM = methods(ToldShields.class);
    private static final Map<String, Method> MODEL = methods(Model.class);

    private final ToldShields program = new ToldShields();
    private final Model model = new Model();
    private final String name;
    private int calls = 0;

    Twins(String name) {
        this.name = name;
    }

    private static Map<String, Method> methods(Class<?> type) {
        Map<String, Method> methods = new HashMap<>();
        for (Method method : type.getDeclaredMethods()) {
            methods.put(method.getName(), method);
        }
        return methods;
    }

    boolean hasCallsLeft() {
        return calls < MOST_CALLS;
    }

    void ask(String call, int... arguments) {
        if (calls == MOST_CALLS) {
            // What later calls answer is free.
            return;
        }
        calls++;
        Object want = answer(MODEL.get(call), model, arguments);
        Object got = answer(program, call, arguments);
        Due.due(name + ", call " + calls + ", " + call + Arrays.toString(arguments), got, want);
    }

    void type(String text) {
        for (char c : text.toCharArray()) {
            ask("type", c);
        }
    }

    void askWholePage() {
        ask("length");
        for (int p = -1; p <= model.length(); p++) {
            ask("charAt", p);
        }
    }

    /** What an object of the program answers to a call told by its name. */
    static Object answer(ToldShields program, String call, int... arguments) {
        return answer(PROGRAM.get(call), program, arguments);
    }

    private static Object answer(Method method, Object object, int[] arguments) {
        Object[] given = new Object[arguments.length];
        for (int i = 0; i < given.length; i++) {
            boolean isChar = method.getParameterTypes()[i] == char.class;
            given[i] = isChar ? (Object) (char) arguments[i] : (Object) arguments[i];
        }
        try {
            return method.invoke(object, given);
        } catch (InvocationTargetException e) {
            return "throws " + e.getCause().getClass().getSimpleName();
        } catch (IllegalAccessException e) {
            throw new IllegalStateException(e);
        }
    }
}
