import java.lang.reflect.InvocationTargetException;
import java.lang.reflect.Method;
import java.util.List;
import java.util.regex.Matcher;
import java.util.regex.Pattern;

/** A call that README.md shows, with the answer that it says: once, or in a loop for i = 1 up to times. */
record Shown(String line, int times, String name, List<String> arguments, String answer) {
    static final String MAKING = "GuaranteeBook book = new GuaranteeBook();";

    private static final Pattern LINE = Pattern.compile(
            "(?:for \\(int i = 1; i <= (\\d+); i\\+\\+\\) )?book\\.(\\w+)\\(([^()]*)\\); +// ([^:]+)(?:: .+)?");

    /** Null if the line shows none. */
    static Shown in(String line) {
        Matcher m = LINE.matcher(line);
        if (!m.matches()) {
            return null;
        }
        int times = m.group(1) == null ? 1 : Integer.parseInt(m.group(1));
        return new Shown(line, times, m.group(2), List.of(m.group(3).split(", ")), m.group(4));
    }

    /** As Answer writes it; a loop's own i stands for the answer of that turn. */
    String dueAnswer(int turn) {
        return answer.equals("i") ? String.valueOf(turn) : answer.replace("throws ", "throws.");
    }

    String answerOf(GuaranteeBook book) {
        Method method = method();
        Object[] values = values(method.getParameterTypes());
        return Answer.of(() -> call(method, book, values));
    }

    private Method method() {
        for (Method method : GuaranteeBook.class.getMethods()) {
            if (method.getName().equals(name)) {
                return method;
            }
        }
        throw new IllegalStateException("no such call: " + line);
    }

    private Object[] values(Class<?>[] types) {
        if (types.length != arguments.size()) {
            throw new IllegalStateException("not as many arguments: " + line);
        }
        Object[] values = new Object[types.length];
        for (int i = 0; i < types.length; i++) {
            values[i] = value(types[i], arguments.get(i));
        }
        return values;
    }

    private static Object value(Class<?> type, String text) {
        if (type == int.class) {
            return Integer.valueOf(text);
        }
        if (type == long.class) {
            return Long.valueOf(text);
        }
        if (type == boolean.class && text.matches("true|false")) {
            return Boolean.valueOf(text);
        }
        throw new IllegalStateException("no " + type + ": " + text);
    }

    private static Object call(Method method, GuaranteeBook book, Object[] values) {
        try {
            return method.invoke(book, values);
        } catch (InvocationTargetException e) {
            if (e.getCause() instanceof RuntimeException) {
                throw (RuntimeException) e.getCause();
            }
            throw new IllegalStateException(e.getCause());
        } catch (IllegalAccessException e) {
            throw new IllegalStateException(e);
        }
    }
}
