/** Promises 9, 10, 11 and 16: desks that fail, days, interest and counts. */
public final class DesksAndDaysTest {
    public static void main(String[] args) {
        Check.runAll(DesksAndDaysTest.class);
    }

    private static GuaranteeBook withAmount(long amount, int rate) {
        GuaranteeBook book = new GuaranteeBook();
        book.guarantee(0, amount, 1, 1, false, rate);
        return book;
    }

    private static void promise09Fails() {
        GuaranteeBook book = withAmount(100, 0);
        for (int desk = 0; desk < 4; desk++) {
            Check.due("off while off", false, book.fails(desk, false));
            Check.due("on", true, book.fails(desk, true));
            Check.due("on while on", false, book.fails(desk, true));
            Check.due("off", true, book.fails(desk, false));
            Check.due("an unset desk works", desk + 1, book.reserve(desk, 0, 1));
        }
        for (int none : new int[] {-1, 4, Integer.MIN_VALUE, Integer.MAX_VALUE}) {
            Check.due("fails(" + none + ", true)", false, book.fails(none, true));
            Check.due("fails(" + none + ", false)", false, book.fails(none, false));
        }
        book.fails(2, true);
        Check.due("another desk works", 5, book.reserve(1, 0, 1));
        Check.due("this one fails", -1, book.reserve(2, 0, 1));
        Check.due("then it fails no more", false, book.fails(2, false));
        Check.due("it works", 6, book.reserve(2, 0, 1));
        Check.due("it may be told again", true, book.fails(2, true));
        Check.due("it fails again", -1, book.reserve(2, 0, 1));
        Check.due("failures of desk 2", 2, book.count(12));
        Check.due("failures of desk 1", 0, book.count(11));
    }

    private static void promise09NothingIsLeft() {
        GuaranteeBook book = new GuaranteeBook();
        book.guarantee(0, 10, 2, 3, true, 5);
        book.guarantee(0, 10, 1, 1, false, 5);
        book.guarantee(0, 10, 0, 1, true, 5);
        book.tick(400);
        GuaranteeBook same = new GuaranteeBook();
        same.guarantee(0, 10, 2, 3, true, 5);
        same.guarantee(0, 10, 1, 1, false, 5);
        same.guarantee(0, 10, 0, 1, true, 5);
        same.tick(400);
        book.fails(3, true);
        String before = State.of(book);
        Check.due("made and undone", -1, book.reserve(3, 0, 30));
        Check.due("one failure", 1, book.count(13));
        int countsEnd = before.indexOf('\n');
        Check.due("all but the counts is as before",
                before.substring(countsEnd), State.of(book).substring(State.of(book).indexOf('\n')));
        Check.due("no reservation", 0, book.count(1));
        Check.due("none live", 0, book.count(2));
        Check.due("the next is as if it had not been", same.reserve(3, 0, 29), book.reserve(3, 0, 29));
        Check.due("so are its parts", same.of(1, 4), book.of(1, 4));
        Check.due("so is what is needed", same.look(1, 2), book.look(1, 2));
    }

    private static void promise09RefusedIsNoFailure() {
        GuaranteeBook book = withAmount(100, 0);
        book.fails(0, true);
        Check.due("refused", -102, book.reserve(0, 0, 101));
        Check.due("no failure", 0, book.count(10));
        Check.due("it is to fail still", false, book.fails(0, true));
        Check.due("the next that could be made", -1, book.reserve(0, 0, 100));
        Check.due("one failure", 1, book.count(10));
        Check.due("refused again", -102, book.reserve(0, 0, 101));
        Check.due("made", 1, book.reserve(0, 0, 100));
    }

    private static void promise10Tick() {
        GuaranteeBook book = new GuaranteeBook();
        Check.due("the same day", true, book.tick(0));
        Check.due("below 0", false, book.tick(-1));
        Check.due("the next", true, book.tick(1));
        Check.due("a day gone by", false, book.tick(0));
        Check.due("today", 1, book.count(3));
        Check.due("some days on", true, book.tick(500));
        Check.due("above the last", false, book.tick(100001));
        Check.due("far above", false, book.tick(Integer.MAX_VALUE));
        Check.due("far below", false, book.tick(Integer.MIN_VALUE));
        Check.due("it is as it was", 500, book.count(3));
        Check.due("the last", true, book.tick(100000));
        Check.due("the last again", true, book.tick(100000));
        Check.due("one behind the last", false, book.tick(100001));
        Check.due("today is the last", 100000, book.count(3));
    }

    private static void promise11Interest() {
        GuaranteeBook book = withAmount(3650000, 1);
        Check.due("on its first day", 0, book.interest(1));
        book.tick(1);
        Check.due("one day", 1, book.interest(1));
        book.tick(11);
        Check.due("eleven days", 11, book.interest(1));
        book.guarantee(0, 3650000, 1, 1, false, 1000);
        book.guarantee(0, 3650000, 1, 1, false, 0);
        Check.due("a new one", 0, book.interest(2));
        book.tick(13);
        Check.due("two days behind its beginning", 2000, book.interest(2));
        Check.due("without a rate", 0, book.interest(3));
        Check.due("the older one", 13, book.interest(1));
        book.reserve(0, 0, 5000000);
        Check.due("a reservation changes no interest", 13, book.interest(1));
        book.tick(14);
        Check.due("nor later", 14, book.interest(1));
    }

    private static void promise11RowsAreRoundedDown() {
        GuaranteeBook book = withAmount(5475000, 1);
        book.tick(1);
        Check.due("1.5 rounded down", 1, book.interest(1));
        book.tick(2);
        Check.due("3 in a row of two days", 3, book.interest(1));
        book.tick(3);
        book.reserve(0, 0, 1825000);
        book.claim(1, 1825000);
        Check.due("4.5 up to the claim", 4, book.interest(1));
        book.tick(4);
        Check.due("1 more of the new amount", 5, book.interest(1));
        book.reserve(0, 0, 1);
        book.claim(2, 1);
        book.tick(5);
        Check.due("just below 1", 5, book.interest(1));
        book.tick(6);
        Check.due("just below 2", 6, book.interest(1));
    }

    private static void promise11AmountsThatStay() {
        GuaranteeBook book = withAmount(1000000, 0);
        book.guarantee(0, 5475000, 1, 1, false, 1);
        book.reserve(0, 0, 1500000);
        book.tick(1);
        Check.due("the second is not reached", 1000000, book.claim(1, 1000000));
        book.tick(2);
        Check.due("its row goes on", 3, book.interest(2));
        book.reserve(0, 0, 5);
        book.tick(3);
        book.reduce(2, 1);
        book.end(2, 1);
        book.first(1);
        book.tick(4);
        Check.due("nor does anything else end it", 6, book.interest(2));
    }

    private static void promise11ManyChanges() {
        GuaranteeBook book = withAmount(7300000, 1);
        for (int i = 1; i <= 3; i++) {
            book.reserve(0, 0, 1000000);
        }
        book.tick(1);
        book.claim(1, 1000000);
        book.claim(2, 1000000);
        book.claim(3, 650000);
        Check.due("several claims on one day", 2, book.interest(1));
        book.tick(3);
        Check.due("4650000 for two days", 4, book.interest(1));
        book.reserve(0, 0, 4650000);
        book.claim(4, 4650000);
        book.tick(99);
        Check.due("nothing of an amount of 0", 4, book.interest(1));
    }

    private static void promise11Closed() {
        GuaranteeBook book = withAmount(5475000, 1);
        book.reserve(0, 0, 5475000);
        book.tick(1);
        book.close(1);
        Check.due("on the day it was closed", 1, book.interest(1));
        book.tick(50);
        Check.due("later", 1, book.interest(1));
        book.claim(1, 5000000);
        Check.due("a claim behind it", 1, book.interest(1));
        book.tick(100);
        Check.due("and later still", 1, book.interest(1));
        book.close(1);
        Check.due("closed again", 1, book.interest(1));
        book.guarantee(0, 3650000, 1, 1, false, 1);
        book.close(2);
        book.tick(200);
        Check.due("closed on its first day", 0, book.interest(2));
    }

    private static void promise11Most() {
        GuaranteeBook book = withAmount(1000000000L, 1000);
        book.tick(100000);
        Check.due("the most of all", 27397260273L, book.interest(1));
    }

    private static void promise16Count() {
        GuaranteeBook book = withAmount(100, 0);
        book.guarantee(4, 1, 1, 1, false, 0);
        book.guarantee(4, 1, 1, 1, false, 0);
        book.tick(77);
        for (int i = 0; i < 5; i++) {
            book.reserve(0, 0, 10);
        }
        book.end(1, 1);
        book.end(2, 2);
        book.claim(3, 5);
        book.reduce(4, 5);
        book.fails(1, true);
        book.reserve(1, 0, 1);
        book.fails(3, true);
        Check.due("guarantees", 3, book.count(0));
        Check.due("reservations", 5, book.count(1));
        Check.due("live ones", 2, book.count(2));
        Check.due("today", 77, book.count(3));
        Check.due("failures of desk 0", 0, book.count(10));
        Check.due("failures of desk 1", 1, book.count(11));
        Check.due("failures of desk 2", 0, book.count(12));
        Check.due("told to fail is no failure", 0, book.count(13));
        for (int none : new int[] {-1, 4, 5, 9, 14, 15, Integer.MIN_VALUE, Integer.MIN_VALUE + 9, Integer.MAX_VALUE}) {
            Check.due("count(" + none + ")", -1, book.count(none));
        }
        book.close(1);
        Check.due("a closed one is counted", 3, book.count(0));
    }
}
