import java.util.function.Consumer;

/** The bounds that promises 4 to 7 and 15 name: a test for each sentence, which stands above it. */
public final class ReservationBoundsTest {
    private static final long MOST = 1000000000L;

    public static void main(String[] args) {
        Check.runAll(ReservationBoundsTest.class);
    }

    private static Consumer<GuaranteeBook> amounts(long... amounts) {
        return book -> {
            for (long amount : amounts) {
                book.guarantee(0, amount, 1, 1, false, 0);
            }
        };
    }

    private static GuaranteeBook made(Consumer<GuaranteeBook> maker) {
        GuaranteeBook book = new GuaranteeBook();
        maker.accept(book);
        return book;
    }

    /** Four guarantees of 10, 20, 30 and 40, and one reservation of all of them but five cents of the last. */
    private static Consumer<GuaranteeBook> fourParts() {
        return amounts(10, 20, 30, 40).andThen(book -> book.reserve(0, 0, 95));
    }

    /** The parts as guarantee, cents, guarantee, cents and so on; there are no more. */
    private static void parts(String when, GuaranteeBook book, int reservation, long... due) {
        Check.due(when + ": parts", due.length / 2, book.of(reservation, 4));
        for (int part = 0; part < 4; part++) {
            int asked = part;
            boolean there = part < due.length / 2;
            Check.dueOf(when + ": guarantee of part " + part, there ? due[2 * part] : Answer.IOOBE,
                    () -> book.of(reservation, 5 + asked));
            Check.dueOf(when + ": cents of part " + part, there ? due[2 * part + 1] : Answer.IOOBE,
                    () -> book.of(reservation, 9 + asked));
        }
    }

    /** Promise 4, "cents are not 1 .. 1000000000": both ends are reserved, what is next to them and far off not. */
    private static void promise04CentsAre1To1000000000() {
        for (long cents : new long[] {1, 2, MOST - 1, MOST}) {
            GuaranteeBook book = made(amounts(MOST));
            Check.due("reserve " + cents, 1, book.reserve(0, 0, cents));
            Check.due("its debt", cents, book.of(1, 1));
            Check.due("it covers", cents, book.of(1, 2));
            Check.due("FREE", MOST - cents, book.look(1, 3));
        }
        for (long none : Outside.CENTS) {
            NoTrace.dueInAll("reserve " + none, Answer.IAE, b -> b.reserve(0, 0, none));
            NoTrace.dueInAll("reserve at a desk to fail " + none, Answer.IAE, b -> b.reserve(2, 7, none));
        }
    }

    /** Promise 4, "no such desk or holder": one wrong argument is enough, and two are no better. */
    private static void promise04OneWrongArgumentIsEnough() {
        NoTrace.dueInAll("a desk below", Answer.IAE, b -> b.reserve(-1, 0, 1));
        NoTrace.dueInAll("a desk above", Answer.IAE, b -> b.reserve(4, 7, MOST));
        NoTrace.dueInAll("a holder below", Answer.IAE, b -> b.reserve(0, -1, 1));
        NoTrace.dueInAll("a holder above", Answer.IAE, b -> b.reserve(3, 8, MOST));
        NoTrace.dueInAll("all below", Answer.IAE, b -> b.reserve(-1, -1, 0));
        NoTrace.dueInAll("all above", Answer.IAE, b -> b.reserve(4, 8, MOST + 1));
    }

    /** Promise 4 with "All of the debt, or nothing": all is made, one cent more is refused, for 1 .. 4 guarantees. */
    private static void promise04AllOrNothing() {
        long[] amounts = {7, 11, 13, 17};
        long sum = 0;
        Consumer<GuaranteeBook> maker = Books.EMPTY;
        for (long amount : amounts) {
            maker = maker.andThen(amounts(amount));
            sum += amount;
            long all = sum;
            NoTrace.due("one cent too many of " + all, -2 - all, maker, b -> b.reserve(0, 0, all + 1));
            NoTrace.due("the most of " + all, -2 - all, maker, b -> b.reserve(0, 0, MOST));
            GuaranteeBook book = made(maker);
            Check.due("all of " + all, 1, book.reserve(0, 0, all));
            Check.due("nothing is left", 0, book.free(0));
            Check.due("one cent less", 1, made(maker).reserve(0, 0, all - 1));
        }
    }

    /** Promise 4 with "each covers as much as it may and as is still wanted": at and next to each guarantee's end. */
    private static void promise04AsMuchAsIsStillWanted() {
        reserved(1, 1, 1);
        reserved(9, 1, 9);
        reserved(10, 1, 10);
        reserved(11, 1, 10, 2, 1);
        reserved(29, 1, 10, 2, 19);
        reserved(30, 1, 10, 2, 20);
        reserved(31, 1, 10, 2, 20, 3, 1);
        reserved(59, 1, 10, 2, 20, 3, 29);
        reserved(60, 1, 10, 2, 20, 3, 30);
        reserved(61, 1, 10, 2, 20, 3, 30, 4, 1);
        reserved(99, 1, 10, 2, 20, 3, 30, 4, 39);
        reserved(100, 1, 10, 2, 20, 3, 30, 4, 40);
    }

    private static void reserved(long cents, long... due) {
        GuaranteeBook book = made(amounts(10, 20, 30, 40, 50));
        String when = "reserved " + cents;
        Check.due(when, 1, book.reserve(0, 0, cents));
        parts(when, book, 1, due);
        for (int number = 1; number <= 5; number++) {
            boolean there = 2 * number <= due.length;
            Check.due(when + ": NEEDED of " + number, there ? due[2 * number - 1] : 0, book.look(number, 2));
            Check.due(when + ": reservations of " + number, there ? 1 : 0, book.look(number, 5));
        }
        Check.due(when + ": free", 150 - cents, book.free(0));
    }

    /** Promise 4, "refused, -2 less what all of the holder's may cover together": with nothing, for each cause. */
    private static void promise04RefusedWithNothing() {
        NoTrace.due("no guarantees", -2, Books.EMPTY, b -> b.reserve(0, 0, 1));
        NoTrace.due("another holder's", -2, amounts(10), b -> b.reserve(0, 1, 1));
        NoTrace.due("closed", -2, amounts(10).andThen(b -> b.close(1)), b -> b.reserve(0, 0, 1));
        NoTrace.due("used up", -2, amounts(10).andThen(b -> b.reserve(0, 0, 10)), b -> b.reserve(0, 0, 1));
        NoTrace.due("claimed", -2, amounts(10).andThen(b -> b.claim(b.reserve(0, 0, 10), 10)), b -> b.reserve(0, 0, 1));
        Consumer<GuaranteeBook> single = b -> {
            b.guarantee(0, 10, 1, 1, true, 0);
            b.reserve(0, 0, 1);
        };
        NoTrace.due("single and used", -2, single, b -> b.reserve(0, 0, 1));
        Consumer<GuaranteeBook> atRisk = b -> {
            b.guarantee(0, 10, 1, 2, false, 0);
            b.reserve(0, 0, 10);
            b.reserve(0, 0, 10);
            b.claim(1, 10);
        };
        NoTrace.due("at risk", -2, atRisk, b -> b.reserve(0, 0, 1));
    }

    /** Promise 4, "(2000000000 at most)": a refusal one below, at and above that. */
    private static void promise04RefusedAtTheMost() {
        NoTrace.due("1999999999", -2000000001, amounts(1, 1, 1, 1, MOST - 2, MOST - 3), b -> b.reserve(0, 0, 5));
        NoTrace.due("2000000000", -2000000002, amounts(1, 1, 1, 1, MOST - 2, MOST - 2), b -> b.reserve(0, 0, 5));
        NoTrace.due("2000000001", -2000000002, amounts(1, 1, 1, 1, MOST - 2, MOST - 1), b -> b.reserve(0, 0, 5));
        NoTrace.due("3000000004", -2000000002, amounts(1, 1, 1, 1, MOST, MOST, MOST), b -> b.reserve(0, 0, 5));
        Consumer<GuaranteeBook> small = amounts(1, 1, 1, 1).andThen(b -> b.guarantee(0, MOST, 1, 100, false, 0));
        NoTrace.due("a small share behind four", -2000000002, small, b -> b.reserve(0, 0, 5));
    }

    /** Promise 4 with "what would need more is refused as well": though the fifth would be enough by itself. */
    private static void promise04OrderAloneTellsTheParts() {
        Consumer<GuaranteeBook> maker = amounts(1, 1, 1, 1, 100);
        NoTrace.due("five in order", -106, maker, b -> b.reserve(0, 0, 5));
        GuaranteeBook book = made(maker);
        book.first(5);
        Check.due("the large one first", 1, book.reserve(0, 0, 100));
        parts("the large one first", book, 1, 5, 100);
        book.end(1, 1);
        Check.due("four parts", 2, book.reserve(0, 0, 103));
        parts("four parts", book, 2, 5, 100, 1, 1, 2, 1, 3, 1);
        book.end(2, 1);
        Check.due("five parts", -106, book.reserve(0, 0, 104));
    }

    /** Promise 4, "NONE if the desk fails; else, refused": a try that can't be made is no failure. */
    private static void promise04RefusedAtADeskThatIsToFail() {
        Consumer<GuaranteeBook> maker = amounts(10, 10, 10, 10, 10).andThen(b -> b.fails(1, true));
        NoTrace.due("one cent too many", -52, maker, b -> b.reserve(1, 0, 51));
        NoTrace.due("five parts", -52, maker, b -> b.reserve(1, 0, 41));
        NoTrace.due("of nothing", -2, maker, b -> b.reserve(1, 1, 1));
        GuaranteeBook book = made(maker);
        Check.due("refused", -52, book.reserve(1, 0, 41));
        Check.due("the next that could be made", -1, book.reserve(1, 0, 40));
        Check.due("the one behind it", 1, book.reserve(1, 0, 40));
        Check.due("FAILURES", 1, book.count(11));
    }

    /** Promise 4, "IllegalStateException if there are 60": at 59 not, at 60 so, and before a refusal or a failure. */
    private static void promise04SixtyAreAll() {
        Consumer<GuaranteeBook> fiftyNine = amounts(100).andThen(book -> {
            for (int i = 0; i < 59; i++) {
                book.reserve(i % 4, 0, 1);
            }
        });
        Check.due("the 60th", 60, made(fiftyNine).reserve(0, 0, 41));
        NoTrace.due("one cent too many at 59", -43, fiftyNine, b -> b.reserve(0, 0, 42));
        Consumer<GuaranteeBook> sixty = fiftyNine.andThen(b -> b.reserve(0, 0, 1));
        NoTrace.due("the 61st", Answer.ISE, sixty, b -> b.reserve(0, 0, 1));
        NoTrace.due("one that can't be covered", Answer.ISE, sixty, b -> b.reserve(0, 0, 42));
        NoTrace.due("one of another holder", Answer.ISE, sixty, b -> b.reserve(0, 1, 1));
        Consumer<GuaranteeBook> toFail = sixty.andThen(b -> b.fails(0, true));
        NoTrace.due("one at a desk to fail", Answer.ISE, toFail, b -> b.reserve(0, 0, 1));
        Consumer<GuaranteeBook> ended = sixty.andThen(book -> {
            for (int number = 1; number <= 60; number++) {
                book.end(number, 1 + number % 2);
            }
        });
        NoTrace.due("when all have ended", Answer.ISE, ended, b -> b.reserve(0, 0, 1));
    }

    /** Promise 4, "its number": the one behind the last that was made, whatever failed or was refused in between. */
    private static void promise04NumbersHaveNoGaps() {
        GuaranteeBook book = made(amounts(10));
        for (int number = 1; number <= 60; number++) {
            Check.due("refused before " + number, -12, book.reserve(0, 0, 11));
            book.fails(1, true);
            Check.due("failed before " + number, -1, book.reserve(1, 0, 10));
            Check.due("number", number, book.reserve(1, 0, 10));
            Check.due("end", 1, book.end(number, 1));
        }
    }

    /** Promises 5, 6, 7 and 15, "if there is none such": in a book with 0, with 6 and with 60. */
    private static void promise05To07And15OtherReservationsAreNone() {
        for (Books made : Books.values()) {
            for (int none : Outside.numbers(made.reservations)) {
                NoTrace.due(made + ", end " + none, Answer.IAE, made, b -> b.end(none, 1));
                NoTrace.due(made + ", reduce " + none, Answer.IAE, made, b -> b.reduce(none, 1));
                NoTrace.due(made + ", claim " + none, Answer.IAE, made, b -> b.claim(none, 1));
                NoTrace.due(made + ", of " + none, Answer.IOOBE, made, b -> b.of(none, 0));
            }
        }
    }

    /** Promise 5, "how is not 1, 2": of a live one and of an ended one. */
    private static void promise05HowIs1Or2() {
        int[] none = {Integer.MIN_VALUE, Integer.MIN_VALUE + 1, -2, -1, 0, 3, 4, 257, 65538, Integer.MAX_VALUE};
        for (int how : none) {
            NoTrace.due("a live one, " + how, Answer.IAE, Books.MIXED, b -> b.end(6, how));
            NoTrace.due("a released one, " + how, Answer.IAE, Books.MIXED, b -> b.end(4, how));
            NoTrace.due("a claimed one, " + how, Answer.IAE, Books.MIXED, b -> b.end(1, how));
            NoTrace.due("none, " + how, Answer.IAE, Books.MIXED, b -> b.end(7, how));
        }
        for (int how = 1; how <= 2; how++) {
            GuaranteeBook book = made(fourParts());
            Check.due("end " + how, 1, book.end(1, how));
            Check.due("how", how, book.of(1, 3));
        }
    }

    /** Promise 5, "0 if it has": however it ended, whichever way is asked. */
    private static void promise05EndedAlready() {
        for (int how = 1; how <= 2; how++) {
            int asked = how;
            NoTrace.due("released, " + how, 0, Books.MIXED, b -> b.end(4, asked));
            NoTrace.due("paid, " + how, 0, Books.MIXED, b -> b.end(5, asked));
            NoTrace.due("claimed, " + how, 0, Books.MIXED, b -> b.end(1, asked));
        }
    }

    /** Promise 5 with "all of its parts go": of one and of the 60th, with 1 .. 4 parts; the AMOUNTS stay. */
    private static void promise05AllPartsGo() {
        for (long cents : new long[] {1, 10, 11, 30, 31, 60, 61, 95, 100}) {
            GuaranteeBook book = made(amounts(10, 20, 30, 40));
            book.reserve(0, 0, cents);
            Check.due("end", 1, book.end(1, 2));
            parts("ended", book, 1);
            Check.due("it covers", 0, book.of(1, 2));
            Check.due("all is free", 100, book.free(0));
            for (int number = 1; number <= 4; number++) {
                Check.due("AMOUNT", 10 * number, book.look(number, 1));
                Check.due("NEEDED", 0, book.look(number, 2));
                Check.due("reservations", 0, book.look(number, 5));
                Check.due("claimed", 0, book.look(number, 8));
            }
        }
        GuaranteeBook full = Books.FULL.make();
        Check.due("the first", 1, full.end(1, 1));
        Check.due("the 58th", 1, full.end(58, 2));
        Check.due("LIVE", 34, full.count(2));
    }

    /** Promise 6, "cents are below 1": of a live one and of an ended one. */
    private static void promise06CentsAre1AtLeast() {
        for (long none : Outside.TOO_FEW_CENTS) {
            NoTrace.due("a live one, " + none, Answer.IAE, Books.MIXED, b -> b.reduce(6, none));
            NoTrace.due("an ended one, " + none, Answer.IAE, Books.MIXED, b -> b.reduce(4, none));
            NoTrace.due("none, " + none, Answer.IAE, Books.MIXED, b -> b.reduce(7, none));
        }
        Check.due("one cent", 94, made(fourParts()).reduce(1, 1));
    }

    /** Promise 6, "NONE if it has ended, or covers no more than that": all but one cent may go, not all. */
    private static void promise06LessThanAll() {
        GuaranteeBook book = made(fourParts());
        Check.due("all but one cent", 1, book.reduce(1, 94));
        parts("one cent", book, 1, 1, 1);
        long[] none = {95, 96, MOST, MOST + 1, Integer.MAX_VALUE, 1L << 31, 1L << 32, (1L << 32) + 1, Long.MAX_VALUE};
        for (long cents : none) {
            NoTrace.due("reduce by " + cents, -1, fourParts(), b -> b.reduce(1, cents));
        }
        Consumer<GuaranteeBook> oneCent = amounts(5).andThen(b -> b.reserve(0, 0, 1));
        NoTrace.due("of one cent", -1, oneCent, b -> b.reduce(1, 1));
        Consumer<GuaranteeBook> reduced = fourParts().andThen(b -> b.reduce(1, 90));
        NoTrace.due("what it covers counts, not its debt", -1, reduced, b -> b.reduce(1, 5));
        Check.due("one less", 1, made(reduced).reduce(1, 4));
        for (int ended : new int[] {1, 4, 5}) {
            NoTrace.due("an ended one", -1, Books.MIXED, b -> b.reduce(ended, 1));
            NoTrace.due("an ended one, by the most", -1, Books.MIXED, b -> b.reduce(ended, Long.MAX_VALUE));
        }
    }

    /** Promise 6 with "from the last one on, those with nothing left go": at and next to each part's end. */
    private static void promise06FromTheLastPartOn() {
        reduced(1, 1, 10, 2, 20, 3, 30, 4, 34);
        reduced(34, 1, 10, 2, 20, 3, 30, 4, 1);
        reduced(35, 1, 10, 2, 20, 3, 30);
        reduced(36, 1, 10, 2, 20, 3, 29);
        reduced(64, 1, 10, 2, 20, 3, 1);
        reduced(65, 1, 10, 2, 20);
        reduced(66, 1, 10, 2, 19);
        reduced(84, 1, 10, 2, 1);
        reduced(85, 1, 10);
        reduced(86, 1, 9);
        reduced(94, 1, 1);
    }

    private static void reduced(long cents, long... due) {
        GuaranteeBook book = made(fourParts());
        String when = "reduced by " + cents;
        Check.due(when, 95 - cents, book.reduce(1, cents));
        Check.due(when + ": covers", 95 - cents, book.of(1, 2));
        Check.due(when + ": debt", 95, book.of(1, 1));
        Check.due(when + ": LIVE", 0, book.of(1, 3));
        parts(when, book, 1, due);
        for (int number = 1; number <= 4; number++) {
            boolean there = 2 * number <= due.length;
            Check.due(when + ": NEEDED of " + number, there ? due[2 * number - 1] : 0, book.look(number, 2));
            Check.due(when + ": reservations of " + number, there ? 1 : 0, book.look(number, 5));
            Check.due(when + ": AMOUNT of " + number, 10 * number, book.look(number, 1));
        }
    }

    /** Promise 6, the same cent by cent: what is NEEDED is rounded up anew each time. */
    private static void promise06CentByCent() {
        GuaranteeBook book = new GuaranteeBook();
        book.guarantee(0, 40, 3, 7, false, 0);
        book.guarantee(0, 40, 1, 2, false, 0);
        Check.due("made", 1, book.reserve(0, 0, 170));
        for (long left = 169; left >= 1; left--) {
            Check.due("covers then", left, book.reduce(1, 1));
            Check.due("NEEDED of the first", (Math.min(left, 93) * 3 + 6) / 7, book.look(1, 2));
            Check.due("NEEDED of the second", (Math.max(0, left - 93) + 1) / 2, book.look(2, 2));
        }
        Check.due("the last cent", -1, book.reduce(1, 1));
    }

    /** Promise 7, "cents are below 1": of a live one and of an ended one. */
    private static void promise07CentsAre1AtLeast() {
        for (long none : Outside.TOO_FEW_CENTS) {
            NoTrace.due("a live one, " + none, Answer.IAE, Books.MIXED, b -> b.claim(6, none));
            NoTrace.due("an ended one, " + none, Answer.IAE, Books.MIXED, b -> b.claim(4, none));
            NoTrace.due("none, " + none, Answer.IAE, Books.MIXED, b -> b.claim(7, none));
        }
        Check.due("one cent", 1, made(fourParts()).claim(1, 1));
    }

    /** Promise 7, "NONE if it has ended, or covers less": all may be claimed, one cent more not. */
    private static void promise07NotAboveWhatItCovers() {
        Check.due("all", 95, made(fourParts()).claim(1, 95));
        long[] none = {96, MOST, MOST + 1, Integer.MAX_VALUE, 1L << 31, 1L << 32, (1L << 32) + 1, Long.MAX_VALUE};
        for (long cents : none) {
            NoTrace.due("claim " + cents, -1, fourParts(), b -> b.claim(1, cents));
        }
        Consumer<GuaranteeBook> reduced = fourParts().andThen(b -> b.reduce(1, 90));
        NoTrace.due("what it covers counts, not its debt", -1, reduced, b -> b.claim(1, 6));
        Check.due("all that it covers", 5, made(reduced).claim(1, 5));
        for (int ended : new int[] {1, 4, 5}) {
            NoTrace.due("an ended one", -1, Books.MIXED, b -> b.claim(ended, 1));
            NoTrace.due("an ended one, the most", -1, Books.MIXED, b -> b.claim(ended, Long.MAX_VALUE));
        }
    }

    /** Promise 7 with "taken from its parts from the first one on": at and next to each part's end. */
    private static void promise07FromTheFirstPartOn() {
        claimed(1, 9, 20, 30, 40);
        claimed(9, 1, 20, 30, 40);
        claimed(10, 0, 20, 30, 40);
        claimed(11, 0, 19, 30, 40);
        claimed(29, 0, 1, 30, 40);
        claimed(30, 0, 0, 30, 40);
        claimed(31, 0, 0, 29, 40);
        claimed(59, 0, 0, 1, 40);
        claimed(60, 0, 0, 0, 40);
        claimed(61, 0, 0, 0, 39);
        claimed(94, 0, 0, 0, 6);
        claimed(95, 0, 0, 0, 5);
    }

    private static void claimed(long cents, long... amounts) {
        GuaranteeBook book = made(fourParts());
        String when = "claimed " + cents;
        Check.due(when, cents, book.claim(1, cents));
        Check.due(when + ": how", 3, book.of(1, 3));
        Check.due(when + ": covers", 0, book.of(1, 2));
        Check.due(when + ": LIVE ones", 0, book.count(2));
        parts(when, book, 1);
        for (int number = 1; number <= 4; number++) {
            long amount = amounts[number - 1];
            Check.due(when + ": AMOUNT of " + number, amount, book.look(number, 1));
            Check.due(when + ": claimed of " + number, 10 * number - amount, book.look(number, 8));
            Check.due(when + ": NEEDED of " + number, 0, book.look(number, 2));
            Check.due(when + ": FREE of " + number, amount, book.look(number, 3));
            Check.due(when + ": reservations of " + number, 0, book.look(number, 5));
        }
    }

    /** Promise 7 with "the AMOUNT is 0 at least": what is taken is below, at and above the AMOUNT. */
    private static void promise07TheAmountIs0AtLeast() {
        for (long cents = 9; cents <= 11; cents++) {
            GuaranteeBook book = new GuaranteeBook();
            book.guarantee(0, 10, 1, 3, false, 0);
            book.guarantee(0, 10, 1, 1, false, 0);
            book.reserve(0, 0, 31);
            long lost = Math.min(10, cents);
            Check.due("claim " + cents, lost, book.claim(1, cents));
            Check.due("AMOUNT", 10 - lost, book.look(1, 1));
            Check.due("CLAIMED", lost, book.look(1, 8));
            Check.due("AMOUNT of the next", 10, book.look(2, 1));
        }
        GuaranteeBook book = new GuaranteeBook();
        book.guarantee(0, 10, 1, 3, false, 0);
        book.guarantee(0, 10, 1, 1, false, 0);
        book.reserve(0, 0, 31);
        Check.due("30 of 10, and one of the next", 11, book.claim(1, 31));
        Check.due("AMOUNT of the next", 9, book.look(2, 1));
    }

    /** Promise 7 with "CLAIMED is by how much the AMOUNT got less": nothing, when it is 0 already. */
    private static void promise07NothingIsLeftToTake() {
        GuaranteeBook book = new GuaranteeBook();
        book.guarantee(0, 1, 0, 1, false, 0);
        book.reserve(0, 0, MOST);
        book.reserve(0, 0, 1);
        book.reserve(0, 0, MOST);
        Check.due("all of an AMOUNT of 1", 1, book.claim(1, MOST));
        Check.due("one cent of 0", 0, book.claim(2, 1));
        Check.due("the most of 0", 0, book.claim(3, MOST));
        Check.due("claimed so far", 1, book.look(1, 8));
        for (int number = 1; number <= 3; number++) {
            Check.due("it has ended", 3, book.of(number, 3));
        }
        Check.due("it covers all the same", 4, book.reserve(0, 0, MOST));
    }

    /** Promise 7 at its most: four AMOUNTS of 1000000000 are never claimed at once, a debt is 1000000000 at most. */
    private static void promise07TheMost() {
        GuaranteeBook book = made(amounts(MOST));
        book.reserve(0, 0, MOST);
        Check.due("the most", MOST, book.claim(1, MOST));
        Check.due("AMOUNT", 0, book.look(1, 1));
        Check.due("claimed so far", MOST, book.look(1, 8));
        Check.due("nothing is left", -2, book.reserve(0, 0, 1));
    }

    /** Promise 7, 60 claims one behind the other: claimed so far is their sum. */
    private static void promise07SixtyClaims() {
        GuaranteeBook book = made(amounts(1830));
        for (int number = 1; number <= 60; number++) {
            book.reserve(0, 0, number);
            Check.due("claim", number, book.claim(number, number));
            Check.due("claimed so far", number * (number + 1) / 2, book.look(1, 8));
        }
        Check.due("AMOUNT", 0, book.look(1, 1));
    }

    /** Promise 15, "no such what or part": with 1 .. 4 parts the parts' whats are there for these alone. */
    private static void promise15PartsThatAreThere() {
        long[] cents = {10, 30, 60, 100};
        for (int many = 1; many <= 4; many++) {
            GuaranteeBook book = made(amounts(10, 20, 30, 40));
            book.reserve(0, 0, cents[many - 1]);
            long[] due = new long[2 * many];
            for (int part = 0; part < many; part++) {
                due[2 * part] = part + 1;
                due[2 * part + 1] = 10 * (part + 1);
            }
            parts(many + " parts", book, 1, due);
        }
    }

    /** Promise 15, the same: 13 and above, and below 0, are no whats of any reservation. */
    private static void promise15NoSuchWhat() {
        for (int none : Outside.WHATS) {
            NoTrace.due("four parts, of " + none, Answer.IOOBE, fourParts(), b -> b.of(1, none));
            NoTrace.due("ended, of " + none, Answer.IOOBE, Books.MIXED, b -> b.of(1, none));
        }
        for (int none : new int[] {13, 14, 15, 17, 21}) {
            NoTrace.due("four parts, of " + none, Answer.IOOBE, fourParts(), b -> b.of(1, none));
        }
        for (int part = 5; part <= 12; part++) {
            int none = part;
            NoTrace.due("ended, of " + none, Answer.IOOBE, Books.MIXED, b -> b.of(4, none));
            NoTrace.due("neither is there", Answer.IOOBE, Books.MIXED, b -> b.of(7, none));
        }
    }

    /** Promise 15, "0 LIVE, or how it ended", with its holder and its debt told to the end. */
    private static void promise15WhatStaysBehindTheEnd() {
        for (int way = 1; way <= 3; way++) {
            GuaranteeBook book = new GuaranteeBook();
            book.guarantee(7, MOST, 1, 1, false, 0);
            book.reserve(3, 7, MOST);
            Check.due("LIVE", 0, book.of(1, 3));
            book.reduce(1, 1);
            if (way == 3) {
                book.claim(1, 1);
            } else {
                book.end(1, way);
            }
            long[] due = {7, MOST, 0, way, 0};
            for (int what = 0; what < due.length; what++) {
                Check.due("ended by " + way + ", of " + what, due[what], book.of(1, what));
            }
        }
    }
}
