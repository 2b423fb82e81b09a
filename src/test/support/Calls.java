import java.lang.reflect.InvocationTargetException;
import java.lang.reflect.Method;
import java.util.Arrays;
import java.util.HashMap;
import java.util.Map;
import java.util.regex.Matcher;
import java.util.regex.Pattern;

/** Calls that are written as text, such as "arc(0, 1, 5)" or "source(2, true)". */
final class Calls {
    private static final Pattern CALL = Pattern.compile("(\\w+)\\((.*)\\)");

    /** Those that were read already: the same ones come again and again. */
    private static final Map<String, Call> READ = new HashMap<>();

    private Calls() { }

    private record Call(Method method, Object[] with) { }

    /** Makes the call and answers what it answered; a text that is no call of the class is a fault of the test. */
    static int answer(LeastPaths x, String text) {
        Call call = READ.computeIfAbsent(text, Calls::read);
        try {
            return (int) call.method.invoke(x, call.with);
        } catch (IllegalAccessException | InvocationTargetException e) {
            throw new IllegalStateException(text + " has thrown", e);
        }
    }

    private static Call read(String text) {
        Matcher call = CALL.matcher(text.strip());
        if (!call.matches()) {
            throw new IllegalArgumentException("this is no call: " + text);
        }
        String[] told = call.group(2).isBlank() ? new String[0] : call.group(2).split(",");
        Method method = methodOf(call.group(1), told.length);
        Object[] with = new Object[told.length];
        for (int i = 0; i < told.length; i++) {
            with[i] = valueOf(told[i].strip(), method.getParameterTypes()[i]);
        }
        return new Call(method, with);
    }

    private static Method methodOf(String name, int parameters) {
        return Arrays.stream(LeastPaths.class.getMethods())
                .filter(method -> method.getName().equals(name) && method.getParameterCount() == parameters)
                .filter(method -> method.getDeclaringClass() == LeastPaths.class)
                .findFirst()
                .orElseThrow(() -> new IllegalArgumentException("there is no such call: " + name));
    }

    private static Object valueOf(String told, Class<?> type) {
        if (type == int.class) {
            return Integer.valueOf(told);
        }
        if (!told.equals("true") && !told.equals("false")) {
            throw new IllegalArgumentException("this is not true or false: " + told);
        }
        return Boolean.valueOf(told);
    }
}
