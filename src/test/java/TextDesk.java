import java.lang.reflect.InvocationTargetException;
import java.lang.reflect.Method;
import java.util.HashMap;
import java.util.Map;

/**
 * A desk (or the model of one) that takes its calls as texts, such as "charge 2 0 0 600 1", and tells its
 * answers as texts: the value, or the name of the exception.
 */
final class TextDesk {
    /** What the document promises for one object. */
    private static final int MOST_CALLS = 512;
    private static final Map<Class<?>, Map<String, Method>> METHODS = new HashMap<>();

    private final Object target;
    private final Map<String, Method> methods;
    private int calls = 0;

    TextDesk(Object target) {
        this.target = target;
        this.methods = METHODS.computeIfAbsent(target.getClass(), TextDesk::methodsByName);
    }

    static TextDesk of(String start) {
        return new TextDesk(new ApprovalGrid()).begin(start);
    }

    /** Makes calls that have to be taken, parted by ";"; "3 * day" is three calls. */
    TextDesk begin(String start) {
        for (String part : start.split(";")) {
            String[] times = part.contains("*") ? part.split("\\*") : new String[] {"1", part};
            int count = part.isBlank() ? 0 : Integer.parseInt(times[0].trim());
            for (int i = 0; i < count; i++) {
                String answer = answer(times[1]);
                if (isException(answer)) {
                    throw new AssertionError("a desk can't begin with" + times[1] + ": " + answer);
                }
            }
        }
        return this;
    }

    String answer(String call) {
        calls++;
        if (calls > MOST_CALLS) {
            throw new AssertionError("a test makes more than 512 calls on one desk");
        }
        String[] words = call.trim().split(" +");
        Method method = methods.get(words[0]);
        if (method == null) {
            throw new AssertionError("no method " + words[0]);
        }
        Object[] arguments = new Object[words.length - 1];
        for (int i = 0; i < arguments.length; i++) {
            boolean isFlag = method.getParameterTypes()[i] == boolean.class;
            arguments[i] = isFlag ? (Object) Boolean.valueOf(words[i + 1]) : (Object) Integer.valueOf(words[i + 1]);
        }
        try {
            return String.valueOf(method.invoke(target, arguments));
        } catch (InvocationTargetException e) {
            return nameOf(e.getCause());
        } catch (IllegalAccessException e) {
            throw new AssertionError(e);
        }
    }

    int number(String call) {
        return Integer.parseInt(answer(call));
    }

    static boolean isException(String answer) {
        return answer.contains("Exception") || answer.contains("Error");
    }

    private static Map<String, Method> methodsByName(Class<?> type) {
        Map<String, Method> methods = new HashMap<>();
        for (Method method : type.getDeclaredMethods()) {
            methods.put(method.getName(), method);
        }
        return methods;
    }

    /** An exception that the machine or the library threw, and not the desk itself, bears that in its name. */
    private String nameOf(Throwable thrown) {
        StackTraceElement[] trace = thrown.getStackTrace();
        boolean isOwn = trace.length > 0 && trace[0].getClassName().equals(target.getClass().getName());
        String name = thrown.getClass().getSimpleName();
        return isOwn ? name : name + " that the desk did not throw itself";
    }
}
