import java.util.function.Consumer;

/** The bounds that promises 9, 10, 11 and 16 name: a test for each sentence, which stands above it. */
public final class DeskAndDayBoundsTest {
    private static final long MOST = 1000000000L;

    public static void main(String[] args) {
        Check.runAll(DeskAndDayBoundsTest.class);
    }

    private static GuaranteeBook withAmount(long amount, int rate) {
        GuaranteeBook book = new GuaranteeBook();
        book.guarantee(0, amount, 1, 1, false, rate);
        return book;
    }

    /** Promise 9, "false if .. it is so": told twice the same, each desk, in each book. */
    private static void promise09ItIsSo() {
        for (int desk = 0; desk < 4; desk++) {
            int told = desk;
            for (Books made : Books.values()) {
                Consumer<GuaranteeBook> on = made.andThen(b -> b.fails(told, true));
                Consumer<GuaranteeBook> off = on.andThen(b -> Check.due("told not to", true, b.fails(told, false)));
                NoTrace.due(made + ", on twice", false, on, b -> b.fails(told, true));
                NoTrace.due(made + ", off twice", false, off, b -> b.fails(told, false));
            }
        }
    }

    /** Promise 9 with "then it fails no more": behind its failure it may be told anew, and not to be told off. */
    private static void promise09OnceOnly() {
        GuaranteeBook book = withAmount(100, 0);
        for (int desk = 0; desk < 4; desk++) {
            for (int failure = 1; failure <= 3; failure++) {
                Check.due("told", true, book.fails(desk, true));
                Check.due("told twice is told once", false, book.fails(desk, true));
                Check.due("it fails", -1, book.reserve(desk, 0, 90));
                Check.due("it fails no more", false, book.fails(desk, false));
                Check.due("FAILURES", failure, book.count(10 + desk));
            }
            Check.due("it works", desk + 1, book.reserve(desk, 0, 1));
        }
    }

    /** Promise 9, told off before it failed: nothing fails, nothing is counted. */
    private static void promise09ToldOffInTime() {
        GuaranteeBook book = withAmount(10, 0);
        for (int desk = 0; desk < 4; desk++) {
            book.fails(desk, true);
            Check.due("told off", true, book.fails(desk, false));
            Check.due("it works", desk + 1, book.reserve(desk, 0, 1));
            Check.due("FAILURES", 0, book.count(10 + desk));
        }
    }

    /** Promise 10, "DAYS are 0 .. 100000": both ends may be, from both ends. */
    private static void promise10DaysAre0To100000() {
        GuaranteeBook book = new GuaranteeBook();
        for (int day : new int[] {0, 0, 1, 2, 2, 99999, 100000, 100000}) {
            Check.due("tick " + day, true, book.tick(day));
            Check.due("TODAY", day, book.count(3));
        }
        Check.due("at once", true, new GuaranteeBook().tick(100000));
    }

    /** Promise 10, "false if it is ahead of TODAY or above 100000". */
    private static void promise10OtherDaysAreNone() {
        int[] none = {Integer.MIN_VALUE, Integer.MIN_VALUE + 1, -100000, -1, 100001, 100002, 165536,
            Integer.MAX_VALUE - 1, Integer.MAX_VALUE};
        for (int day : none) {
            NoTrace.dueInAll("tick " + day, false, b -> b.tick(day));
        }
        for (int today : new int[] {1, 2, 500, 99999, 100000}) {
            Consumer<GuaranteeBook> made = book -> {
                book.guarantee(0, 5475000, 1, 1, false, 1);
                book.tick(today);
            };
            NoTrace.due("the day before " + today, false, made, b -> b.tick(today - 1));
            NoTrace.due("the first day", false, made, b -> b.tick(0));
            NoTrace.due("behind the last", false, made, b -> b.tick(100001));
            // No day has gone by: all is as it was, though it is no refusal.
            NoTrace.due("today", true, made, b -> b.tick(today));
        }
    }

    /** Promise 11, "for each day behind the one of its beginning": none on that day, one on the next. */
    private static void promise11TheDayBehindTheFirst() {
        for (int begin : new int[] {0, 1, 99999}) {
            GuaranteeBook book = new GuaranteeBook();
            book.tick(begin);
            book.guarantee(0, 3650000, 1, 1, false, 1000);
            Check.due("on its day", 0, book.interest(1));
            book.tick(begin + 1);
            Check.due("on the next", 1000, book.interest(1));
        }
    }

    /** Promise 11, "rounded down": next to a whole cent, for a day and for all days. */
    private static void promise11RoundedDown() {
        interest(3649999, 1, 1, 0);
        interest(3650000, 1, 1, 1);
        interest(7299999, 1, 1, 1);
        interest(3649, 1000, 1, 0);
        interest(3650, 1000, 1, 1);
        interest(36, 1, 100000, 0);
        interest(37, 1, 100000, 1);
        interest(73, 1, 100000, 2);
        interest(1, 36, 100000, 0);
        interest(1, 37, 100000, 1);
        interest(1, 1, 100000, 0);
        interest(1, 1000, 3649, 0);
        interest(1, 1000, 3650, 1);
    }

    /** Promise 11 at its least and at its most: a rate of 0, an amount of 1, and the most of all three. */
    private static void promise11LeastAndMost() {
        interest(MOST, 0, 100000, 0);
        interest(MOST, 1, 1, 273);
        interest(MOST, 1, 100000, 27397260);
        interest(MOST, 1000, 1, 273972);
        interest(MOST, 1000, 365, 100000000);
        interest(MOST, 1000, 99999, 27396986301L);
        interest(MOST, 1000, 100000, 27397260273L);
        interest(MOST - 1, 1000, 100000, 27397260246L);
    }

    private static void interest(long amount, int rate, int days, long due) {
        GuaranteeBook book = withAmount(amount, rate);
        book.tick(days);
        Check.due(amount + " at " + rate + " for " + days, due, book.interest(1));
        GuaranteeBook slow = withAmount(amount, rate);
        for (int step = 1; step <= 100; step++) {
            slow.tick((int) ((long) days * step / 100));
            slow.interest(1);
        }
        Check.due(amount + " at " + rate + " for " + days + ", asked on the way", due, slow.interest(1));
    }

    /** Promise 11, "(or to the one on which it was closed)": that day counts, the next does not. */
    private static void promise11UpToTheDayItWasClosed() {
        for (int day : new int[] {0, 1, 2, 99999, 100000}) {
            GuaranteeBook book = withAmount(3650000, 1);
            book.tick(day);
            book.close(1);
            Check.due("on day " + day, day, book.interest(1));
            book.tick(Math.min(100000, day + 1));
            Check.due("the next day", day, book.interest(1));
            book.tick(100000);
            Check.due("the last day", day, book.interest(1));
        }
    }

    /** Promise 11, the same: what is claimed, told or closed again behind it changes nothing. */
    private static void promise11NothingBehindTheClosing() {
        GuaranteeBook book = withAmount(5475000, 1);
        book.reserve(0, 0, 5475000);
        book.reserve(0, 0, 1);
        book.tick(3);
        book.close(1);
        Check.due("closed", 4, book.interest(1));
        Check.due("claimed on that day", 5475000, book.claim(1, 5475000));
        Check.due("behind the claim", 4, book.interest(1));
        book.tick(5);
        Check.due("closed again", false, book.close(1));
        Check.due("behind it", 4, book.interest(1));
    }

    /** Promise 11, "rounded down for each such row of days": 60 claims on 60 days make 61 rows. */
    private static void promise11EachRowIsRoundedDown() {
        GuaranteeBook book = withAmount(5475060, 1);
        for (int number = 1; number <= 60; number++) {
            book.reserve(0, 0, 1);
        }
        for (int number = 1; number <= 60; number++) {
            book.tick(number);
            Check.due("before claim " + number, number, book.interest(1));
            Check.due("claim", 1, book.claim(number, 1));
            Check.due("behind claim " + number, number, book.interest(1));
        }
        book.tick(62);
        Check.due("two days more of 5475000", 63, book.interest(1));
    }

    /** Promise 11, "exact for days one behind the other with one AMOUNT": what leaves the AMOUNT ends no row. */
    private static void promise11ARowGoesOn() {
        GuaranteeBook book = new GuaranteeBook();
        book.guarantee(0, 10, 1, 1, false, 0);
        book.guarantee(0, 5475000, 1, 1, false, 1);
        book.tick(1);
        book.reserve(0, 0, 30);
        book.tick(2);
        book.reduce(1, 1);
        book.tick(3);
        Check.due("a claim of the first alone", 10, book.claim(1, 10));
        book.tick(4);
        book.fails(0, true);
        Check.due("a failure", -1, book.reserve(0, 0, 5));
        book.tick(5);
        Check.due("a reservation", 2, book.reserve(0, 0, 5));
        book.tick(6);
        Check.due("its end", 1, book.end(2, 2));
        book.tick(7);
        Check.due("another order", true, book.first(2));
        Check.due("a refusal", -5475002, book.reserve(0, 0, 5475001));
        book.tick(8);
        Check.due("8 days of 1.5", 12, book.interest(2));
    }

    /** Promise 11, "AMOUNT (as of each change)": on the first and on the last day, several a day, down to 0. */
    private static void promise11ChangesAtTheEnds() {
        GuaranteeBook book = withAmount(7300000, 1);
        for (int number = 1; number <= 4; number++) {
            book.reserve(0, 0, 1825000);
        }
        book.claim(1, 1825000);
        Check.due("claimed on its first day", 0, book.interest(1));
        book.tick(1);
        Check.due("1.5 of the rest", 1, book.interest(1));
        book.claim(2, 1825000);
        book.claim(3, 1825000);
        Check.due("claimed twice on a day", 1, book.interest(1));
        book.tick(3);
        Check.due("twice 0.5", 2, book.interest(1));
        book.claim(4, 1825000);
        book.tick(100000);
        Check.due("of an AMOUNT of 0", 2, book.interest(1));
        GuaranteeBook last = withAmount(MOST, 1000);
        last.reserve(0, 0, MOST);
        last.tick(100000);
        last.claim(1, MOST);
        Check.due("claimed on the last day", 27397260273L, last.interest(1));
    }

    /** Promise 16, "NONE for another what or desk": 0 .. 3 and 10 .. 13 are all. */
    private static void promise16OtherWhatsAreNone() {
        for (int none : Outside.WHATS) {
            NoTrace.dueInAll("count " + none, -1, b -> b.count(none));
        }
        for (int none : new int[] {4, 5, 6, 7, 8, 9, 14, 15, 20}) {
            NoTrace.dueInAll("count " + none, -1, b -> b.count(none));
        }
    }

    /** Promise 16, each count when it is empty and when it is full. */
    private static void promise16EmptyAndFull() {
        long[] full = {20, 60, 36, 100000};
        for (int what = 0; what <= 3; what++) {
            Check.due("empty, count " + what, 0, Books.EMPTY.make().count(what));
            Check.due("full, count " + what, full[what], Books.FULL.make().count(what));
        }
        GuaranteeBook book = Books.FULL.make();
        for (int number = 1; number <= 60; number++) {
            book.end(number, 1);
        }
        Check.due("none LIVE", 0, book.count(2));
        Check.due("ended ones are reservations", 60, book.count(1));
        for (int number = 1; number <= 20; number++) {
            book.close(number);
        }
        Check.due("closed ones are guarantees", 20, book.count(0));
    }
}
