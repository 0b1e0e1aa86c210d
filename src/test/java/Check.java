import java.lang.reflect.InvocationTargetException;
import java.lang.reflect.Method;
import java.lang.reflect.Modifier;
import java.util.Arrays;
import java.util.Comparator;
import java.util.Objects;
import java.util.function.Supplier;

/** Counts and prints what is not as due; a test's main ends with report(). */
final class Check {
    private static int checks = 0;
    private static int wrong = 0;
    private static String test = "";

    private Check() {
    }

    static void due(String what, Object want, Object got) {
        checks++;
        if (!Objects.equals(want, got)) {
            wrong++;
            System.out.println(test + what + " answered " + got + ", due is " + want);
        }
    }

    static void due(String what, long want, long got) {
        due(what, Long.valueOf(want), Long.valueOf(got));
    }

    static void due(String what, boolean want, boolean got) {
        due(what, Boolean.valueOf(want), Boolean.valueOf(got));
    }

    /** The due answer is one of Answer's, or the text of a value. */
    static void dueOf(String what, Object want, Supplier<Object> call) {
        due(what, String.valueOf(want), Answer.of(call));
    }

    /** Runs every test of a class, so that none is written and then forgotten: static, void, without arguments. */
    static void runAll(Class<?> tests) {
        Method[] methods = tests.getDeclaredMethods();
        Arrays.sort(methods, Comparator.comparing(Method::getName));
        for (Method method : methods) {
            boolean bare = method.getParameterCount() == 0 && method.getReturnType() == void.class;
            if (bare && Modifier.isStatic(method.getModifiers()) && !method.isSynthetic()) {
                run(method);
            }
        }
        report();
    }

    private static void run(Method method) {
        test = method.getName() + ": ";
        int before = checks;
        try {
            method.setAccessible(true);
            method.invoke(null);
        } catch (InvocationTargetException e) {
            due("the test", "an end", e.getCause());
        } catch (IllegalAccessException e) {
            due("the test", "a start", e);
        }
        due("the test looks at something", true, checks > before);
    }

    static void report() {
        System.out.println(checks + " checks, " + wrong + " not as due");
        if (wrong != 0 || checks == 0) {
            System.exit(1);
        }
    }
}
