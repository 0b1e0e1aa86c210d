import java.util.Objects;

/** Counts and prints what is not as due; a test's main ends with report(). */
final class Check {
    private static int checks = 0;
    private static int wrong = 0;

    private Check() {
    }

    static void due(String what, Object want, Object got) {
        checks++;
        if (!Objects.equals(want, got)) {
            wrong++;
            System.out.println(what + " answered " + got + ", due is " + want);
        }
    }

    static void due(String what, long want, long got) {
        due(what, Long.valueOf(want), Long.valueOf(got));
    }

    static void due(String what, boolean want, boolean got) {
        due(what, Boolean.valueOf(want), Boolean.valueOf(got));
    }

    /** Only the very class counts: an ArrayIndexOutOfBoundsException of the machine is not the document's. */
    static void dueThrow(String what, Class<? extends RuntimeException> want, Runnable call) {
        due(what, want, thrownBy(call));
    }

    /** The call throws as due, and the book tells all the same behind it as before it. */
    static void dueThrowAndNoChange(
            String what, Class<? extends RuntimeException> want, GuaranteeBook book, Runnable call) {
        String before = State.of(book);
        dueThrow(what, want, call);
        due("the state behind " + what, before, State.of(book));
    }

    private static Class<? extends RuntimeException> thrownBy(Runnable call) {
        try {
            call.run();
            return null;
        } catch (RuntimeException e) {
            return e.getClass();
        }
    }

    static void report() {
        System.out.println(checks + " checks, " + wrong + " not as due");
        if (wrong != 0 || checks == 0) {
            System.exit(1);
        }
    }
}
