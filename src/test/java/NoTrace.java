import java.util.EnumSet;
import java.util.Set;
import java.util.function.Consumer;
import java.util.function.Function;

/**
 * What throws or is refused changes nothing: of two books made alike one gets the call, and no later call tells
 * which of the two it was.
 */
final class NoTrace {
    private NoTrace() {
    }

    static void due(
            String what, Object want, Consumer<GuaranteeBook> made, Function<GuaranteeBook, Object> call) {
        GuaranteeBook book = book(made);
        Check.dueOf(what, want, () -> call.apply(book));
        alike(what, EnumSet.allOf(Later.class), made, made.andThen(other -> Answer.of(() -> call.apply(other))));
    }

    /** The same in an empty book, in one with something of everything, and in a full one. */
    static void dueInAll(String what, Object want, Function<GuaranteeBook, Object> call) {
        for (Books made : Books.values()) {
            due(made + ", " + what, want, made, call);
        }
    }

    static void alike(
            String what, Set<Later> laters, Consumer<GuaranteeBook> one, Consumer<GuaranteeBook> other) {
        for (Later later : laters) {
            Check.due(what + ", then " + later, later.answersOf(book(one)), later.answersOf(book(other)));
        }
    }

    private static GuaranteeBook book(Consumer<GuaranteeBook> made) {
        GuaranteeBook book = new GuaranteeBook();
        made.accept(book);
        return book;
    }
}
