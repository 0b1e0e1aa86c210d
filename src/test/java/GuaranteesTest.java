/** Promises 1, 2, 3, 8, 12, 13 and 14: guarantees, their order, and what they tell. */
public final class GuaranteesTest {
    public static void main(String[] args) {
        Check.runAll(GuaranteesTest.class);
    }

    private static void promise01NewObject() {
        GuaranteeBook book = new GuaranteeBook();
        Check.due("new: guarantees", 0, book.count(0));
        Check.due("new: reservations", 0, book.count(1));
        Check.due("new: live", 0, book.count(2));
        Check.due("new: today", 0, book.count(3));
        for (int desk = 0; desk < 4; desk++) {
            Check.due("new: failures", 0, book.count(10 + desk));
            Check.due("new: a desk does not fail", false, book.fails(desk, false));
        }
        for (int holder = 0; holder < 8; holder++) {
            Check.due("new: free", 0, book.free(holder));
            Check.due("new: list", -1, book.list(holder, 0));
            Check.due("new: reserve", -2, book.reserve(0, holder, 1));
        }
        Check.due("new: first", false, book.first(1));
        Check.due("new: close", false, book.close(1));
        Check.dueOf("new: look", Answer.IOOBE, () -> book.look(1, 0));
        Check.dueOf("new: of", Answer.IOOBE, () -> book.of(1, 0));
    }

    private static void promise01ObjectsShareNothing() {
        GuaranteeBook one = new GuaranteeBook();
        GuaranteeBook other = new GuaranteeBook();
        String before = State.of(other);
        one.guarantee(0, 100, 1, 1, false, 10);
        one.reserve(0, 0, 50);
        one.fails(1, true);
        one.reserve(1, 0, 50);
        one.tick(7);
        Check.due("the other book", before, State.of(other));
    }

    private static void promise02Guarantee() {
        GuaranteeBook book = new GuaranteeBook();
        Check.due("the least of all", 1, book.guarantee(0, 1, 0, 1, false, 0));
        Check.due("the most of all", 2, book.guarantee(7, 1000000000L, 100, 100, true, 1000));
        Check.due("up 0 by 100", 3, book.guarantee(7, 5, 0, 100, false, 0));
        Check.due("up as down", 4, book.guarantee(7, 5, 1, 1, false, 0));
        Check.due("holder of 2", 7, book.look(2, 0));
        Check.due("amount of 2", 1000000000L, book.look(2, 1));
        Check.due("amount of 1", 1, book.look(1, 1));
        Check.due("guarantees", 4, book.count(0));
        for (int what : new int[] {2, 5, 6, 7, 8}) {
            Check.due("a new one, what " + what, 0, book.look(4, what));
        }
        Check.due("free of a new one", 5, book.look(4, 3));
        Check.due("a new one may cover", 5, book.look(4, 4));
    }

    private static GuaranteeBook ofOneHolder(int holder, int many) {
        GuaranteeBook book = new GuaranteeBook();
        for (int i = 0; i < many; i++) {
            book.guarantee(holder, 10, 1, 1, false, 0);
        }
        return book;
    }

    private static void order(String when, GuaranteeBook book, int holder, int... numbers) {
        for (int i = 0; i < numbers.length; i++) {
            Check.due(when + ", place " + i, numbers[i], book.list(holder, i));
        }
        Check.due(when + ", behind the last", -1, book.list(holder, numbers.length));
    }

    private static void promise03First() {
        GuaranteeBook book = ofOneHolder(2, 3);
        book.guarantee(5, 10, 1, 1, false, 0);
        Check.due("first of the first", false, book.first(1));
        Check.due("first of the only one", false, book.first(4));
        Check.due("first(3)", true, book.first(3));
        order("behind first(3)", book, 2, 3, 1, 2);
        Check.due("first(3) again", false, book.first(3));
        order("behind first(3) again", book, 2, 3, 1, 2);
        Check.due("first(1)", true, book.first(1));
        order("behind first(1)", book, 2, 1, 3, 2);
        Check.due("first(2)", true, book.first(2));
        order("behind first(2)", book, 2, 2, 1, 3);
        book.guarantee(2, 10, 1, 1, false, 0);
        order("a new one comes last", book, 2, 2, 1, 3, 5);
        order("the other holder", book, 5, 4);
        Check.due("first of the last", true, book.first(5));
        order("behind first(5)", book, 2, 5, 2, 1, 3);
        for (int none : new int[] {0, -1, 6, 21, Integer.MIN_VALUE, Integer.MAX_VALUE}) {
            Check.due("first(" + none + ")", false, book.first(none));
        }
        book.close(3);
        Check.due("a closed one goes first too", true, book.first(3));
        order("behind first of a closed one", book, 2, 3, 5, 2, 1);
    }

    private static void promise08Close() {
        GuaranteeBook book = ofOneHolder(0, 2);
        book.reserve(0, 0, 15);
        for (int none : new int[] {0, -1, 3, 20, Integer.MIN_VALUE, Integer.MAX_VALUE}) {
            Check.due("close(" + none + ")", false, book.close(none));
        }
        Check.due("close(2)", true, book.close(2));
        Check.due("close(2) again", false, book.close(2));
        Check.due("closed", 1, book.look(2, 6));
        Check.due("the other is open", 0, book.look(1, 6));
        Check.due("its free stays", 5, book.look(2, 3));
        Check.due("it may cover nothing", 0, book.look(2, 4));
        Check.due("its reservation stays", 1, book.look(2, 5));
        Check.due("what it needs stays", 5, book.look(2, 2));
        Check.due("the reservation covers all", 15, book.of(1, 2));
        Check.due("no new reservation", -2, book.reserve(0, 0, 1));
        Check.due("reduced all the same", 12, book.reduce(1, 3));
        Check.due("needed of the closed one", 2, book.look(2, 2));
        Check.due("claimed all the same", 12, book.claim(1, 12));
        Check.due("amount of the closed one", 8, book.look(2, 1));
        Check.due("it stays in the order", 2, book.list(0, 1));
        Check.due("it is counted", 2, book.count(0));
    }

    private static void promise12Free() {
        GuaranteeBook book = new GuaranteeBook();
        book.guarantee(1, 100, 1, 3, false, 0);
        book.guarantee(1, 7, 1, 1, true, 0);
        book.guarantee(2, 9, 1, 1, false, 0);
        Check.due("free(1)", 307, book.free(1));
        Check.due("free(2)", 9, book.free(2));
        Check.due("free(0)", 0, book.free(0));
        book.first(2);
        book.reserve(0, 1, 8);
        Check.due("behind a reservation", 297, book.free(1));
        book.close(1);
        Check.due("one closed, one single and used", 0, book.free(1));
        book.end(1, 1);
        Check.due("the single one again", 7, book.free(1));
        for (int none : new int[] {-1, 8, Integer.MIN_VALUE, Integer.MAX_VALUE}) {
            Check.due("free(" + none + ")", -1, book.free(none));
        }
        book.guarantee(3, 1000000000L, 1, 1, false, 0);
        book.guarantee(3, 999999999L, 1, 1, false, 0);
        Check.due("one below the most", 1999999999L, book.free(3));
        book.guarantee(3, 1, 1, 1, false, 0);
        Check.due("the most", 2000000000L, book.free(3));
        book.guarantee(3, 1, 1, 1, false, 0);
        Check.due("above the most", 2000000000L, book.free(3));
    }

    private static void promise13List() {
        GuaranteeBook book = new GuaranteeBook();
        book.guarantee(1, 1, 1, 1, false, 0);
        book.guarantee(0, 1, 1, 1, false, 0);
        book.guarantee(1, 1, 1, 1, false, 0);
        order("holder 1", book, 1, 1, 3);
        order("holder 0", book, 0, 2);
        order("holder 7", book, 7);
        for (int none : new int[] {-1, 2, 20, Integer.MIN_VALUE, Integer.MAX_VALUE}) {
            Check.due("list(1, " + none + ")", -1, book.list(1, none));
        }
        for (int none : new int[] {-1, 8, Integer.MIN_VALUE, Integer.MAX_VALUE}) {
            Check.due("list(" + none + ", 0)", -1, book.list(none, 0));
        }
        order("twenty", ofOneHolder(7, 20), 7,
                1, 2, 3, 4, 5, 6, 7, 8, 9, 10, 11, 12, 13, 14, 15, 16, 17, 18, 19, 20);
    }

    private static void told(String when, GuaranteeBook book, int guarantee, long... due) {
        for (int what = 0; what < due.length; what++) {
            Check.due(when + ", look(" + guarantee + ", " + what + ")", due[what], book.look(guarantee, what));
        }
    }

    private static void promise14Look() {
        GuaranteeBook book = new GuaranteeBook();
        book.guarantee(4, 100, 1, 2, false, 0);
        told("new", book, 1, 4, 100, 0, 100, 200, 0, 0, 0, 0);
        book.reserve(0, 4, 51);
        told("51 covered", book, 1, 4, 100, 26, 74, 148, 1, 0, 0, 0);
        book.reserve(0, 4, 3);
        told("3 more covered", book, 1, 4, 100, 28, 72, 144, 2, 0, 0, 0);
        book.claim(1, 30);
        told("30 claimed", book, 1, 4, 70, 2, 68, 136, 1, 0, 0, 30);
        book.close(1);
        told("closed", book, 1, 4, 70, 2, 68, 0, 1, 1, 0, 30);
        book.end(2, 2);
        told("paid", book, 1, 4, 70, 0, 70, 0, 0, 1, 0, 30);
    }

    private static void promise14Rounding() {
        GuaranteeBook book = new GuaranteeBook();
        book.guarantee(0, 10, 3, 7, false, 0);
        Check.due("most that needs 10 of 3/7", 23, book.look(1, 4));
        book.reserve(0, 0, 1);
        book.reserve(0, 0, 1);
        book.reserve(0, 0, 1);
        Check.due("each reservation is rounded up by itself", 3, book.look(1, 2));
        Check.due("behind them it may cover", 16, book.look(1, 4));
        Check.due("one cent more", -18, book.reserve(0, 0, 17));
        Check.due("all of it", 4, book.reserve(0, 0, 16));
        Check.due("all is needed", 10, book.look(1, 2));
        Check.due("nothing is free", 0, book.look(1, 3));
        book.guarantee(1, 1000000000L, 1, 100, false, 0);
        Check.due("a small share covers a lot", 100000000000L, book.look(2, 4));
        book.guarantee(2, 1000000000L, 99, 100, false, 0);
        Check.due("99 by 100", 1010101010L, book.look(3, 4));
    }

    private static void promise14ShareOfZero() {
        GuaranteeBook book = new GuaranteeBook();
        book.guarantee(0, 1, 0, 7, false, 0);
        Check.due("may cover", 1000000000L, book.look(1, 4));
        book.reserve(0, 0, 1000000000L);
        told("all covered", book, 1, 0, 1, 0, 1, 1000000000L, 1, 0, 0, 0);
        book.reserve(0, 0, 5);
        book.claim(1, 2);
        told("nothing left of the amount", book, 1, 0, 0, 0, 0, 1000000000L, 1, 0, 0, 1);
        Check.due("it covers all the same", 3, book.reserve(0, 0, 1000000000L));
    }

    private static void promise14Risk() {
        GuaranteeBook book = new GuaranteeBook();
        book.guarantee(0, 100, 1, 2, false, 0);
        book.reserve(0, 0, 80);
        book.reserve(0, 0, 120);
        Check.due("no risk while all is needed", 0, book.look(1, 7));
        Check.due("claim", 70, book.claim(1, 70));
        told("at risk", book, 1, 0, 30, 60, 0, 0, 1, 0, 30, 70);
        Check.due("refused", -2, book.reserve(0, 0, 1));
        Check.due("reduced", 70, book.reduce(2, 50));
        told("less at risk", book, 1, 0, 30, 35, 0, 0, 1, 0, 5, 70);
        Check.due("reduced more", 50, book.reduce(2, 20));
        told("no more at risk", book, 1, 0, 30, 25, 5, 10, 1, 0, 0, 70);
    }
}
