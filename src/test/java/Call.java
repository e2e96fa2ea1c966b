import java.lang.reflect.InvocationTargetException;
import java.lang.reflect.Method;
import java.util.Arrays;
import java.util.List;
import java.util.Map;
import java.util.TreeMap;

/** One call of the face, told by its name and its numbers (a boolean by 1 or 0), to be made on a watch or on the model. */
record Call(String name, long... numbers) {
    private static final Map<String, Method> OF_WATCH = methods(MountainWatch.class);
    private static final Map<String, Method> OF_MODEL = methods(Model.class);

    private static Map<String, Method> methods(Class<?> of) {
        Map<String, Method> found = new TreeMap<>();
        for (Method m : of.getDeclaredMethods()) {
            found.put(m.getName() + m.getParameterCount(), m);
        }
        return found;
    }

    static void all(List<Call> calls, MountainWatch watch) {
        for (Call call : calls) {
            call.on(watch);
        }
    }

    static void all(List<Call> calls, Model model) {
        for (Call call : calls) {
            call.on(model);
        }
    }

    int on(MountainWatch watch) {
        return make(OF_WATCH, watch);
    }

    int on(Model model) {
        return make(OF_MODEL, model);
    }

    private int make(Map<String, Method> methods, Object object) {
        Method m = methods.get(name + numbers.length);
        Object[] given = new Object[numbers.length];
        for (int i = 0; i < given.length; i++) {
            Class<?> type = m.getParameterTypes()[i];
            if (type == long.class) {
                given[i] = numbers[i];
            } else if (type == boolean.class) {
                given[i] = numbers[i] == 1;
            } else {
                given[i] = (int) numbers[i];
            }
        }
        try {
            return (Integer) m.invoke(object, given);
        } catch (IllegalAccessException | InvocationTargetException e) {
            throw new IllegalStateException(this + " threw", e);
        }
    }

    @Override
    public String toString() {
        String list = Arrays.toString(numbers);
        return name + "(" + list.substring(1, list.length() - 1) + ")";
    }
}
