/** Promises 4, 5, 6, 7 and 15: reservations, how they end, and what they tell. */
public final class ReservationsTest {
    public static void main(String[] args) {
        Check.runAll(ReservationsTest.class);
    }

    private static GuaranteeBook withAmounts(int holder, long... amounts) {
        GuaranteeBook book = new GuaranteeBook();
        for (long amount : amounts) {
            book.guarantee(holder, amount, 1, 1, false, 0);
        }
        return book;
    }

    /** The parts as guarantee, cents, guarantee, cents and so on. */
    private static void parts(String when, GuaranteeBook book, int reservation, long... due) {
        Check.due(when + ": parts", due.length / 2, book.of(reservation, 4));
        long sum = 0;
        for (int part = 0; part < due.length / 2; part++) {
            Check.due(when + ": guarantee of part " + part, due[2 * part], book.of(reservation, 5 + part));
            Check.due(when + ": cents of part " + part, due[2 * part + 1], book.of(reservation, 9 + part));
            sum += due[2 * part + 1];
        }
        Check.due(when + ": covers", sum, book.of(reservation, 2));
        for (int part = due.length / 2; part < 4; part++) {
            int none = part;
            Check.dueOf(when + ": no part " + part, Answer.IOOBE, () -> book.of(reservation, 9 + none));
            Check.dueOf(when + ": no guarantee " + part, Answer.IOOBE, () -> book.of(reservation, 5 + none));
        }
    }

    private static void promise04InOrder() {
        GuaranteeBook book = withAmounts(1, 10, 20, 30);
        book.guarantee(2, 500, 1, 1, false, 0);
        Check.due("of the first alone", 1, book.reserve(0, 1, 4));
        parts("of the first alone", book, 1, 1, 4);
        Check.due("over two", 2, book.reserve(3, 1, 7));
        parts("over two", book, 2, 1, 6, 2, 1);
        book.first(3);
        Check.due("with another first", 3, book.reserve(0, 1, 31));
        parts("with another first", book, 3, 3, 30, 2, 1);
        Check.due("a used up one has no part", 4, book.reserve(0, 1, 18));
        parts("a used up one has no part", book, 4, 2, 18);
        Check.due("nothing left", -2, book.reserve(0, 1, 1));
        Check.due("the other holder's is its own", 500, book.free(2));
        Check.due("reservations", 4, book.count(1));
    }

    private static void promise04AllOrNothing() {
        GuaranteeBook book = withAmounts(1, 10, 20);
        String before = State.of(book);
        Check.due("one cent too many", -32, book.reserve(0, 1, 31));
        Check.due("nothing is there of it", before, State.of(book));
        Check.due("all of it", 1, book.reserve(0, 1, 30));
        before = State.of(book);
        Check.due("refused", -2, book.reserve(0, 1, 1));
        Check.due("nothing is there of the refused", before, State.of(book));
        Check.due("a holder without guarantees", -2, book.reserve(0, 0, 1));
    }

    private static void promise04FourParts() {
        GuaranteeBook book = withAmounts(6, 10, 10, 10, 10, 10);
        String before = State.of(book);
        Check.due("five parts", -52, book.reserve(0, 6, 41));
        Check.due("behind five parts", before, State.of(book));
        Check.due("four parts", 1, book.reserve(0, 6, 40));
        parts("four parts", book, 1, 1, 10, 2, 10, 3, 10, 4, 10);
        Check.due("those used up don't count", 2, book.reserve(0, 6, 10));
        parts("those used up don't count", book, 2, 5, 10);
    }

    private static void promise04Single() {
        GuaranteeBook book = new GuaranteeBook();
        book.guarantee(0, 10, 1, 1, true, 0);
        book.guarantee(0, 20, 1, 1, false, 0);
        book.reserve(0, 0, 4);
        Check.due("a used single one may cover nothing", 0, book.look(1, 4));
        Check.due("its free is told", 6, book.look(1, 3));
        Check.due("the next is behind it", 2, book.reserve(0, 0, 5));
        parts("the next is behind it", book, 2, 2, 5);
        Check.due("refused with what the other may cover", -17, book.reserve(0, 0, 16));
        book.end(1, 2);
        Check.due("free again", 3, book.reserve(0, 0, 12));
        parts("free again", book, 3, 1, 10, 2, 2);
        book.first(2);
        book.end(2, 1);
        book.end(3, 1);
        book.reserve(0, 0, 21);
        parts("the single one last", book, 4, 2, 20, 1, 1);
        book.reduce(4, 1);
        Check.due("without its part it is free", 10, book.look(1, 4));
    }

    private static void promise04Most() {
        GuaranteeBook book = withAmounts(0, 1000000000L, 1000000000L, 1000000000L, 1000000000L, 1000000000L);
        book.guarantee(1, 10000000L, 1, 100, false, 0);
        Check.due("the most at once", 1, book.reserve(0, 0, 1000000000L));
        Check.due("the most of a small share", 2, book.reserve(0, 1, 1000000000L));
        Check.due("needed of a small share", 10000000L, book.look(6, 2));
        for (int i = 0; i < 5; i++) {
            book.guarantee(2, 1, 1, 1, false, 0);
        }
        book.guarantee(2, 1000000000L, 1, 2, false, 0);
        Check.due("refused for parts, at most 2000000000", -2000000002, book.reserve(0, 2, 6));
    }

    private static void promise05End() {
        GuaranteeBook book = withAmounts(3, 10, 20);
        book.reserve(0, 3, 15);
        book.reserve(0, 3, 5);
        Check.due("released", 1, book.end(1, 1));
        Check.due("how", 1, book.of(1, 3));
        parts("released", book, 1);
        Check.due("its debt is told still", 15, book.of(1, 1));
        Check.due("its holder is told still", 3, book.of(1, 0));
        Check.due("the first is free", 10, book.look(1, 3));
        Check.due("the second keeps the other's", 15, book.look(2, 3));
        Check.due("reservations of the second", 1, book.look(2, 5));
        Check.due("paid", 1, book.end(2, 2));
        Check.due("how the other", 2, book.of(2, 3));
        Check.due("amounts stay", 20, book.look(2, 1));
        Check.due("nothing is claimed", 0, book.look(2, 8));
        Check.due("none live", 0, book.count(2));
        String before = State.of(book);
        Check.due("once only", 0, book.end(1, 2));
        Check.due("once only, the same way", 0, book.end(2, 2));
        Check.due("what has ended stays", before, State.of(book));
        book.reserve(0, 3, 30);
        book.claim(3, 1);
        Check.due("a claimed one has ended", 0, book.end(3, 1));
        Check.due("it stays claimed", 3, book.of(3, 3));
    }

    private static void promise05EndOfFourParts() {
        GuaranteeBook book = withAmounts(0, 10, 10, 10, 10, 10);
        String before = State.of(book);
        Check.due("a try with too many parts", -52, book.reserve(0, 0, 50));
        book.reserve(0, 0, 1);
        book.end(1, 1);
        book.reserve(0, 0, 40);
        book.end(2, 2);
        book.reserve(0, 0, 36);
        Check.due("four parts reduced to one", 1, book.reduce(3, 35));
        book.end(3, 1);
        for (int guarantee = 1; guarantee <= 5; guarantee++) {
            Check.due("nothing is needed", 0, book.look(guarantee, 2));
            Check.due("no reservation", 0, book.look(guarantee, 5));
        }
        Check.due("amounts and free as before", before.substring(before.indexOf('\n')),
                State.of(book).substring(State.of(book).indexOf('\n'), State.of(book).indexOf("\nreservation")));
        book.reserve(0, 0, 40);
        Check.due("four parts claimed", 35, book.claim(4, 35));
        Check.due("amount of the fourth", 5, book.look(4, 1));
        Check.due("amount of the fifth", 10, book.look(5, 1));
        Check.due("nothing of the fourth is needed", 0, book.look(4, 2));
    }

    private static void promise06Reduce() {
        GuaranteeBook book = withAmounts(0, 10, 10, 10);
        book.reserve(0, 0, 25);
        Check.due("less of the last", 23, book.reduce(1, 2));
        parts("less of the last", book, 1, 1, 10, 2, 10, 3, 3);
        Check.due("just the last", 20, book.reduce(1, 3));
        parts("just the last", book, 1, 1, 10, 2, 10);
        Check.due("the last is free", 10, book.look(3, 3));
        Check.due("the last has no reservation", 0, book.look(3, 5));
        Check.due("over two parts", 8, book.reduce(1, 12));
        parts("over two parts", book, 1, 1, 8);
        Check.due("needed of the first", 8, book.look(1, 2));
        Check.due("the second is free", 0, book.look(2, 2));
        Check.due("its debt stays", 25, book.of(1, 1));
        Check.due("it lives", 0, book.of(1, 3));
        String before = State.of(book);
        Check.due("all of it", -1, book.reduce(1, 8));
        Check.due("more than all", -1, book.reduce(1, 9));
        Check.due("far more than all", -1, book.reduce(1, Long.MAX_VALUE));
        Check.due("what can't be reduced stays", before, State.of(book));
        Check.due("to one cent", 1, book.reduce(1, 7));
        book.end(1, 2);
        Check.due("an ended one", -1, book.reduce(1, 1));
        GuaranteeBook shared = new GuaranteeBook();
        shared.guarantee(0, 100, 2, 3, false, 0);
        shared.reserve(0, 0, 100);
        shared.reduce(1, 1);
        Check.due("needed is rounded anew", 66, shared.look(1, 2));
        shared.reduce(1, 1);
        Check.due("needed is rounded up anew", 66, shared.look(1, 2));
    }

    private static void promise07Claim() {
        GuaranteeBook book = withAmounts(0, 10, 20, 30);
        book.reserve(0, 0, 35);
        Check.due("more than it covers", -1, book.claim(1, 36));
        Check.due("far more than it covers", -1, book.claim(1, Long.MAX_VALUE));
        Check.due("it lives", 0, book.of(1, 3));
        Check.due("over two parts", 14, book.claim(1, 14));
        Check.due("amount of the first", 0, book.look(1, 1));
        Check.due("amount of the second", 16, book.look(2, 1));
        Check.due("amount of the third", 30, book.look(3, 1));
        Check.due("claimed of the first", 10, book.look(1, 8));
        Check.due("claimed of the second", 4, book.look(2, 8));
        Check.due("claimed of the third", 0, book.look(3, 8));
        for (int guarantee = 1; guarantee <= 3; guarantee++) {
            Check.due("the rest goes", 0, book.look(guarantee, 2));
            Check.due("no reservation is left", 0, book.look(guarantee, 5));
        }
        Check.due("how", 3, book.of(1, 3));
        parts("claimed", book, 1);
        Check.due("none live", 0, book.count(2));
        Check.due("once only", -1, book.claim(1, 1));
        book.reserve(0, 0, 46);
        parts("an empty guarantee covers nothing", book, 2, 2, 16, 3, 30);
        Check.due("all of it", 46, book.claim(2, 46));
        Check.due("claimed so far", 20, book.look(2, 8));
        book.guarantee(0, 5, 1, 1, false, 0);
        book.reserve(0, 0, 5);
        book.end(3, 1);
        Check.due("a released one", -1, book.claim(3, 1));
    }

    private static void promise07ClaimMoreThanAmount() {
        GuaranteeBook book = new GuaranteeBook();
        book.guarantee(0, 10, 1, 4, false, 0);
        book.guarantee(0, 50, 1, 2, false, 0);
        book.reserve(0, 0, 20);
        book.reserve(0, 0, 60);
        parts("the second", book, 2, 1, 20, 2, 40);
        Check.due("taken is above needed", 8, book.claim(1, 8));
        Check.due("amount", 2, book.look(1, 1));
        Check.due("needed by the other", 5, book.look(1, 2));
        Check.due("risk", 3, book.look(1, 7));
        Check.due("free", 0, book.look(1, 3));
        Check.due("20 taken of an amount of 2, 10 of one of 50", 12, book.claim(2, 30));
        Check.due("amount at least 0", 0, book.look(1, 1));
        Check.due("claimed by the amount", 10, book.look(1, 8));
        Check.due("amount of the second", 40, book.look(2, 1));
        Check.due("no risk behind it", 0, book.look(1, 7));
        book.guarantee(1, 3, 0, 1, false, 0);
        book.reserve(0, 1, 5);
        book.reserve(0, 1, 5);
        Check.due("a share of 0 loses its amount", 3, book.claim(3, 5));
        Check.due("an amount of 0 loses nothing", 0, book.claim(4, 5));
        Check.due("claimed is so all the same", 3, book.of(4, 3));
        Check.due("claimed so far", 3, book.look(3, 8));
    }

    private static void promise15Of() {
        GuaranteeBook book = withAmounts(5, 3, 4, 5, 6);
        book.reserve(2, 5, 17);
        long[] due = {5, 17, 17, 0, 4, 1, 2, 3, 4, 3, 4, 5, 5};
        for (int what = 0; what < due.length; what++) {
            Check.due("of(1, " + what + ")", due[what], book.of(1, what));
        }
        book.reduce(1, 6);
        Check.due("the debt it was made for", 17, book.of(1, 1));
        parts("reduced", book, 1, 1, 3, 2, 4, 3, 4);
        book.end(1, 2);
        long[] ended = {5, 17, 0, 2, 0};
        for (int what = 0; what < ended.length; what++) {
            Check.due("ended: of(1, " + what + ")", ended[what], book.of(1, what));
        }
        parts("ended", book, 1);
    }
}
