import java.util.function.Supplier;

/** Answers as texts, written as the issues write them. */
final class Answer {
    static final String IAE = "throws.IllegalArgumentException";
    static final String ISE = "throws.IllegalStateException";
    static final String IOOBE = "throws.IndexOutOfBoundsException";

    private Answer() {
    }

    /** Only the very class counts: an ArrayIndexOutOfBoundsException of the machine is not the document's. */
    static String of(Supplier<Object> call) {
        try {
            return String.valueOf(call.get());
        } catch (RuntimeException e) {
            return "throws." + e.getClass().getSimpleName();
        }
    }
}
