import java.util.EnumSet;
import java.util.function.Consumer;

/** The bounds in the document's first lines and its Terms: a test for each sentence, which stands above it. */
public final class TermsBoundsTest {
    private static final long MOST = 1000000000L;

    public static void main(String[] args) {
        Check.runAll(TermsBoundsTest.class);
    }

    private static GuaranteeBook withAmounts(int holder, long... amounts) {
        GuaranteeBook book = new GuaranteeBook();
        for (long amount : amounts) {
            book.guarantee(holder, amount, 1, 1, false, 0);
        }
        return book;
    }

    private static long needs(long cents, int up, int down) {
        return (cents * up + down - 1) / down;
    }

    /** The books of the other tests hold what they are said to hold. */
    private static void booksAreAsSaid() {
        for (Books made : Books.values()) {
            Check.due(made + ": guarantees", made.guarantees, made.make().count(0));
            Check.due(made + ": reservations", made.reservations, made.make().count(1));
        }
        GuaranteeBook mixed = Books.MIXED.make();
        Check.due("mixed: at risk", 1000000, mixed.look(4, 7));
        Check.due("mixed: closed", 1, mixed.look(5, 6));
        Check.due("mixed: a single one in use", 1, mixed.look(2, 5));
        Check.due("mixed: live", 3, mixed.count(2));
        Check.due("mixed: a failure", 1, mixed.count(11));
        Check.due("mixed: a desk to fail", false, mixed.fails(2, true));
        Check.due("mixed: three parts", 3, mixed.of(6, 4));
        GuaranteeBook full = Books.FULL.make();
        Check.due("full: live", 36, full.count(2));
        Check.due("full: the last day", 100000, full.count(3));
    }

    /** "what is reserved never passes an amount", for each share and amounts at both ends. */
    private static void neverPassesAnAmountForAnyShare() {
        for (int down = 1; down <= 100; down++) {
            for (int up = 1; up <= down; up++) {
                for (long amount : new long[] {1, 2, 3, 7, 99, 101, 123456789, MOST - 1, MOST}) {
                    allThatAShareMayCover(amount, up, down);
                }
            }
        }
    }

    private static void allThatAShareMayCover(long amount, int up, int down) {
        String what = amount + " with " + up + "/" + down;
        GuaranteeBook book = new GuaranteeBook();
        book.guarantee(0, amount, up, down, false, 0);
        long most = book.look(1, 4);
        Check.due(what + ": the most needs no more than FREE", true, needs(most, up, down) <= amount);
        Check.due(what + ": one more would", true, needs(most + 1, up, down) > amount);
        if (most < MOST) {
            Check.due(what + ": one more", -2 - most, book.reserve(0, 0, most + 1));
        }
        long cents = Math.min(most, MOST);
        Check.due(what + ": the most", 1, book.reserve(0, 0, cents));
        Check.due(what + ": NEEDED", needs(cents, up, down), book.look(1, 2));
        Check.due(what + ": FREE", amount - needs(cents, up, down), book.look(1, 3));
        Check.due(what + ": RISK", 0, book.look(1, 7));
    }

    /** "each reservation ends once": behind each way to end no other has any effect. */
    private static void eachReservationEndsOnce() {
        for (int way = 1; way <= 3; way++) {
            int ended = way;
            Consumer<GuaranteeBook> made = Books.MIXED.andThen(book -> endBy(book, 6, ended, 7));
            NoTrace.due("ended by " + way + ", end 1", 0, made, book -> book.end(6, 1));
            NoTrace.due("ended by " + way + ", end 2", 0, made, book -> book.end(6, 2));
            NoTrace.due("ended by " + way + ", claim", -1, made, book -> book.claim(6, 1));
            NoTrace.due("ended by " + way + ", reduce", -1, made, book -> book.reduce(6, 1));
            GuaranteeBook book = new GuaranteeBook();
            made.accept(book);
            Check.due("how it ended", way, book.of(6, 3));
            Check.due("one less is LIVE", 2, book.count(2));
        }
    }

    private static void endBy(GuaranteeBook book, int reservation, int way, long cents) {
        if (way == 3) {
            book.claim(reservation, cents);
        } else {
            book.end(reservation, way);
        }
    }

    /** "desks that fail leave nothing behind": but for the failure all is as if the try had not been. */
    private static void desksThatFailLeaveNothingBehind() {
        EnumSet<Later> allButFailures = EnumSet.complementOf(EnumSet.of(Later.FAILURES));
        for (long cents : new long[] {1, 80, 1580}) {
            Consumer<GuaranteeBook> failed = Books.MIXED.andThen(book -> {
                book.fails(0, true);
                Check.due("the desk fails with " + cents, -1, book.reserve(0, 0, cents));
            });
            NoTrace.alike("failed with " + cents, allButFailures, Books.MIXED, failed);
            GuaranteeBook book = new GuaranteeBook();
            failed.accept(book);
            Check.due("one FAILURE more", 1, book.count(10));
            Check.due("none of another desk", 1, book.count(11));
        }
    }

    /** The same where four parts are made and undone, a SINGLE one, a share of 0 and a small one among them. */
    private static void desksThatFailLeaveFourPartsAsTheyWere() {
        Consumer<GuaranteeBook> made = book -> {
            book.guarantee(0, 10, 1, 1, true, 0);
            book.guarantee(0, 10, 1, 3, false, 0);
            book.guarantee(0, 5475000, 1, 1, true, 1);
            book.guarantee(0, 1, 0, 1, true, 0);
            book.tick(1);
        };
        Consumer<GuaranteeBook> failed = made.andThen(book -> {
            book.fails(3, true);
            Check.due("the desk fails", -1, book.reserve(3, 0, 900000000L));
            book.tick(1);
        });
        NoTrace.alike("failed", EnumSet.complementOf(EnumSet.of(Later.FAILURES)), made, failed);
    }

    /** "An object is used for at most 512 calls": the 512th is answered as well as the first. */
    private static void the512thCallIsAnswered() {
        GuaranteeBook book = new GuaranteeBook();
        for (int number = 1; number <= 20; number++) {
            Check.due("guarantee " + number, number, book.guarantee(3, 10, 1, 1, false, 0));
        }
        for (int number = 1; number <= 60; number++) {
            Check.due("reservation " + number, number, book.reserve(0, 3, 3));
        }
        for (int calls = 80; calls < 510; calls++) {
            Check.due("call " + (calls + 1), true, book.fails(0, calls % 2 == 0));
        }
        Check.due("call 511", 3, book.claim(60, 3));
        Check.due("call 512", 3, book.look(18, 8));
    }

    /** The same, with as many failures as 512 calls have room for: only what is made counts to the 60. */
    private static void failuresHaveNoBound() {
        GuaranteeBook book = withAmounts(0, 1);
        for (int i = 1; i <= 254; i++) {
            book.fails(3, true);
            Check.due("failure " + i, -1, book.reserve(3, 0, 1));
        }
        Check.due("FAILURES", 254, book.count(13));
        Check.due("call 511", 1, book.reserve(3, 0, 1));
        Check.due("call 512", 1, book.count(1));
    }

    /** "HOLDERS are 0 .. 7": each of them is one for every call, and has what is its own. */
    private static void holdersAre0To7() {
        GuaranteeBook book = new GuaranteeBook();
        for (int holder = 0; holder <= 7; holder++) {
            Check.due("guarantee of " + holder, holder + 1, book.guarantee(holder, 10 + holder, 1, 1, false, 0));
        }
        for (int holder = 0; holder <= 7; holder++) {
            Check.due("free of " + holder, 10 + holder, book.free(holder));
            Check.due("first of " + holder, holder + 1, book.list(holder, 0));
            Check.due("second of " + holder, -1, book.list(holder, 1));
            Check.due("one cent too many of " + holder, -12 - holder, book.reserve(0, holder, 11 + holder));
            Check.due("all of " + holder, holder + 1, book.reserve(0, holder, 10 + holder));
            Check.due("holder of its reservation", holder, book.of(holder + 1, 0));
            Check.due("holder of its guarantee", holder, book.look(holder + 1, 0));
        }
    }

    /** The same from outside: no other number is a holder. */
    private static void otherHoldersAreNone() {
        for (int none : Outside.HOLDERS) {
            NoTrace.dueInAll("guarantee of " + none, Answer.IAE, b -> b.guarantee(none, 10, 1, 1, false, 0));
            NoTrace.dueInAll("reserve of " + none, Answer.IAE, b -> b.reserve(0, none, 1));
            NoTrace.dueInAll("free of " + none, -1, b -> b.free(none));
            NoTrace.dueInAll("list of " + none, -1, b -> b.list(none, 0));
        }
    }

    /** "DESKS 0 .. 3": each of them fails by itself. */
    private static void desksAre0To3() {
        for (int desk = 0; desk <= 3; desk++) {
            GuaranteeBook book = withAmounts(0, 10);
            Check.due("desk " + desk + " is told", true, book.fails(desk, true));
            for (int other = 0; other <= 3; other++) {
                boolean failed = book.reserve(other, 0, 1) == -1;
                Check.due("desk " + other + " fails while " + desk + " is to", other == desk, failed);
                Check.due("failures of " + other, other == desk ? 1 : 0, book.count(10 + other));
            }
        }
    }

    /** The same from outside: no other number is a desk. */
    private static void otherDesksAreNone() {
        for (int none : Outside.DESKS) {
            NoTrace.dueInAll("reserve at " + none, Answer.IAE, b -> b.reserve(none, 0, 1));
            NoTrace.dueInAll("fails of " + none, false, b -> b.fails(none, true));
            NoTrace.dueInAll("fails not of " + none, false, b -> b.fails(none, false));
        }
        for (int none : new int[] {9, 14, 15, 266, 65546}) {
            NoTrace.dueInAll("count " + none, -1, b -> b.count(none));
        }
    }

    /** "GUARANTEES 1, 2, .. (20 at most)": numbered as they come, whoever's they are, the 20th as the 1st. */
    private static void guaranteesAre1To20() {
        for (int holders = 1; holders <= 8; holders += 7) {
            GuaranteeBook book = new GuaranteeBook();
            for (int number = 1; number <= 20; number++) {
                Check.due("number", number, book.guarantee((7 * number) % holders, number, 1, 1, false, 0));
                Check.due("guarantees", number, book.count(0));
            }
            for (int number = 1; number <= 20; number++) {
                Check.due("amount of " + number, number, book.look(number, 1));
                Check.due("interest of " + number, 0, book.interest(number));
                Check.due("close " + number, true, book.close(number));
            }
        }
    }

    /** The same from outside: no other number is a guarantee, in a book with 0, with 6 and with 20. */
    private static void otherGuaranteesAreNone() {
        for (Books made : Books.values()) {
            for (int none : Outside.numbers(made.guarantees)) {
                NoTrace.due(made + ", first " + none, false, made, b -> b.first(none));
                NoTrace.due(made + ", close " + none, false, made, b -> b.close(none));
                NoTrace.due(made + ", interest " + none, Answer.IAE, made, b -> b.interest(none));
                NoTrace.due(made + ", look " + none, Answer.IOOBE, made, b -> b.look(none, 0));
            }
        }
    }

    /** "with an AMOUNT (1 .. 1000000000 cents)": both ends are taken whole, and reserved whole. */
    private static void amountsAre1To1000000000() {
        for (long amount : new long[] {1, 2, MOST - 1, MOST}) {
            GuaranteeBook book = new GuaranteeBook();
            Check.due("guarantee of " + amount, 1, book.guarantee(0, amount, 1, 1, false, 0));
            Check.due("AMOUNT", amount, book.look(1, 1));
            Check.due("FREE", amount, book.look(1, 3));
            Check.due("all of it", 1, book.reserve(0, 0, amount));
            Check.due("nothing is left", -2, book.reserve(0, 0, 1));
        }
        for (long none : Outside.CENTS) {
            NoTrace.dueInAll("guarantee of " + none, Answer.IAE, b -> b.guarantee(0, none, 1, 1, false, 0));
        }
    }

    /** "a SHARE up / down (0 .. 100 by 1 .. 100, up not above down)": each pair from two below to two above. */
    private static void sharesAre0To100By1To100() {
        for (int up = -2; up <= 102; up++) {
            for (int down = -2; down <= 102; down++) {
                boolean can = up >= 0 && up <= 100 && down >= 1 && down <= 100 && up <= down;
                GuaranteeBook book = new GuaranteeBook();
                int upHere = up;
                int downHere = down;
                Check.dueOf("share " + up + "/" + down, can ? "1" : Answer.IAE,
                        () -> book.guarantee(0, 5, upHere, downHere, false, 0));
                Check.due("guarantees behind " + up + "/" + down, can ? 1 : 0, book.count(0));
            }
        }
    }

    /** The same at its ends, and far from them: nothing is there of what can't be. */
    private static void otherSharesAreNone() {
        int least = Integer.MIN_VALUE;
        int most = Integer.MAX_VALUE;
        int[][] shares = {{-1, 1}, {-1, 100}, {0, 0}, {1, 0}, {0, -1}, {-1, -1}, {2, 1}, {100, 99}, {101, 100},
            {101, 101}, {0, 101}, {1, 101}, {100, 101}, {least, 1}, {least, least}, {least, most}, {0, least},
            {0, most}, {1, most}, {most, most}, {most, 1}, {most, 100}, {256, 1}, {0, 257}, {65536, 1}, {0, 65537}};
        for (int[] share : shares) {
            NoTrace.dueInAll("share " + share[0] + "/" + share[1], Answer.IAE,
                    b -> b.guarantee(0, 5, share[0], share[1], false, 0));
        }
    }

    /** "SINGLE ones (for one reservation at a time)": another one behind each way in which the first goes. */
    private static void singleOnesAreForOneReservationAtATime() {
        for (int way = 1; way <= 3; way++) {
            GuaranteeBook book = new GuaranteeBook();
            book.guarantee(0, 100, 1, 1, true, 0);
            Check.due("one cent is enough to use it", 1, book.reserve(0, 0, 1));
            Check.due("FREE is told all the same", 99, book.look(1, 3));
            Check.due("it MAY COVER nothing", 0, book.look(1, 4));
            Check.due("a second at once", -2, book.reserve(0, 0, 1));
            endBy(book, 1, way, 1);
            Check.due("a second behind it", 2, book.reserve(0, 0, way == 3 ? 99 : 100));
            Check.due("a third at once", -2, book.reserve(0, 0, 1));
            Check.due("its reservations", 1, book.look(1, 5));
        }
    }

    /** The same: it is used by a part, until the part has nothing left. */
    private static void aSingleOneIsFreeWhenItsPartGoes() {
        GuaranteeBook book = withAmounts(0, 10);
        book.guarantee(0, 10, 1, 1, true, 0);
        book.reserve(0, 0, 13);
        Check.due("reduced to one cent of it", 11, book.reduce(1, 2));
        Check.due("used still", 0, book.look(2, 4));
        Check.due("reduced to nothing of it", 10, book.reduce(1, 1));
        Check.due("free again", 10, book.look(2, 4));
        Check.due("reserved again", 2, book.reserve(0, 0, 10));
        Check.due("by the other", 2, book.of(2, 5));
    }

    /** The same: one of a share of 0 is SINGLE too, though nothing of it is NEEDED. */
    private static void aSingleOneOfAShareOfZero() {
        GuaranteeBook book = new GuaranteeBook();
        book.guarantee(0, 1, 0, 1, true, 0);
        Check.due("before", MOST, book.look(1, 4));
        book.reserve(0, 0, 1);
        Check.due("nothing is NEEDED", 0, book.look(1, 2));
        Check.due("used", 0, book.look(1, 4));
        Check.due("refused", -2, book.reserve(0, 0, 1));
    }

    /** "CASH ones have a RATE (0 .. 1000 hundredths in 100 a year)". */
    private static void ratesAre0To1000() {
        for (int rate : new int[] {0, 1, 999, 1000}) {
            GuaranteeBook book = new GuaranteeBook();
            Check.due("rate " + rate, 1, book.guarantee(0, 3650000, 1, 1, false, rate));
            book.tick(1);
            Check.due("interest of a day", rate, book.interest(1));
        }
        int[] none = {Integer.MIN_VALUE, Integer.MIN_VALUE + 1, -1000, -1, 1001, 1002, 65536, Integer.MAX_VALUE};
        for (int rate : none) {
            NoTrace.dueInAll("rate " + rate, Answer.IAE, b -> b.guarantee(0, 5, 1, 1, false, rate));
        }
    }

    /** "later CLOSED: that bars new reservations alone". */
    private static void closedBarsNewReservationsAlone() {
        GuaranteeBook book = withAmounts(0, 10, 10, 10);
        book.reserve(0, 0, 30);
        book.reduce(1, 5);
        for (int number = 1; number <= 3; number++) {
            Check.due("close " + number, true, book.close(number));
        }
        Check.due("what was reserved covers still", 25, book.of(1, 2));
        Check.due("FREE is told still", 5, book.look(3, 3));
        Check.due("a new reservation", -2, book.reserve(0, 0, 1));
        Check.due("reduced still", 22, book.reduce(1, 3));
        Check.due("goes FIRST still", true, book.first(3));
        Check.due("stands in the order still", 3, book.list(0, 0));
        Check.due("claimed still", 12, book.claim(1, 12));
        Check.due("AMOUNT less still", 8, book.look(2, 1));
        Check.due("new guarantees of the holder", 4, book.guarantee(0, 10, 1, 1, false, 0));
        Check.due("cover new reservations", 2, book.reserve(0, 0, 10));
        Check.due("alone", 4, book.of(2, 5));
    }

    /** "0 if it is CLOSED": of any share, SINGLE or not, in use or not; what all may cover together is less by it. */
    private static void aClosedOneMayCoverNothing() {
        for (int up = 0; up <= 2; up++) {
            for (int used = 0; used <= 1; used++) {
                GuaranteeBook book = new GuaranteeBook();
                book.guarantee(0, 100, up, 2, up == 1, 0);
                book.guarantee(0, 7, 1, 1, false, 0);
                if (used == 1) {
                    book.reserve(0, 0, 10);
                }
                book.close(1);
                Check.due("MAY COVER", 0, book.look(1, 4));
                Check.due("FREE", 100 - used * 5 * up, book.look(1, 3));
                Check.due("free of the holder", 7, book.free(0));
                Check.due("refused", -9, book.reserve(0, 0, 8));
                Check.due("by the other", used + 1, book.reserve(0, 0, 7));
                Check.due("alone", 1, book.of(used + 1, 4));
                Check.due("by the other", 2, book.of(used + 1, 5));
            }
        }
    }

    /** "To COVER x cents it NEEDS x * up / down, rounded up": at and next to where it is exact, far above an int. */
    private static void neededIsRoundedUp() {
        needed(1, 1, 100, 1);
        needed(100, 1, 100, 1);
        needed(101, 1, 100, 2);
        needed(1, 99, 100, 1);
        needed(100, 99, 100, 99);
        needed(101, 99, 100, 100);
        needed(699, 3, 7, 300);
        needed(700, 3, 7, 300);
        needed(701, 3, 7, 301);
        needed(MOST, 1, 1, MOST);
        needed(MOST, 100, 100, MOST);
        needed(MOST, 99, 100, 990000000L);
        needed(MOST - 1, 99, 100, 990000000L);
        needed(MOST - 2, 99, 100, 989999999L);
        needed(MOST, 1, 3, 333333334L);
        needed(MOST, 0, 100, 0);
        needed(1, 0, 1, 0);
    }

    private static void needed(long cents, int up, int down, long due) {
        GuaranteeBook book = new GuaranteeBook();
        book.guarantee(0, MOST, up, down, false, 0);
        book.reserve(0, 0, cents);
        Check.due(cents + " by " + up + "/" + down, due, book.look(1, 2));
        book.guarantee(1, Math.max(1, due), up, down, false, 0);
        Check.due("an AMOUNT of that is enough", 2, book.reserve(0, 1, cents));
        if (due > 1) {
            book.guarantee(2, due - 1, up, down, false, 0);
            Check.due("one cent less is not", true, book.reserve(0, 2, cents) < -1);
        }
    }

    /** "(a share of 0: any x up to 1000000000)": 1000000000 each time, however often. */
    private static void aShareOfZeroMayCoverAnyDebt() {
        GuaranteeBook book = new GuaranteeBook();
        book.guarantee(0, 1, 0, 1, false, 0);
        book.guarantee(1, MOST, 0, 100, false, 0);
        for (int i = 1; i <= 30; i++) {
            Check.due("1 for a share of 0/1", MOST, book.look(1, 4));
            Check.due("1000000000 for a share of 0/100", MOST, book.look(2, 4));
            Check.due("the most of holder 0", 2 * i - 1, book.reserve(0, 0, MOST));
            Check.due("the most of holder 1", 2 * i, book.reserve(0, 1, MOST));
        }
        Check.due("reservations of the first", 30, book.look(1, 5));
        Check.due("NEEDED", 0, book.look(1, 2));
        Check.due("FREE", 1, book.look(1, 3));
        Check.due("free of the holder", MOST, book.free(0));
    }

    /** "those with something alone": what MAY COVER nothing has no part and takes no place among the four. */
    private static void partsWithNothingAreNone() {
        GuaranteeBook book = withAmounts(0, 10, 5, 5, 10, 10);
        book.guarantee(0, 9, 1, 1, true, 0);
        book.guarantee(0, 10, 1, 1, false, 0);
        book.guarantee(0, 10, 1, 1, false, 0);
        book.close(1);
        book.reserve(0, 0, 10);
        book.first(6);
        book.reserve(0, 0, 1);
        Check.due("closed, used up twice and used as a single one", 0,
                book.look(1, 4) + book.look(2, 4) + book.look(3, 4) + book.look(6, 4));
        Check.due("four others", 3, book.reserve(0, 0, 40));
        for (int part = 0; part < 4; part++) {
            Check.due("guarantee of part " + part, new int[] {4, 5, 7, 8}[part], book.of(3, 5 + part));
        }
    }

    /** "4 at most: what would need more is refused as well": 1 .. 4 parts are made, 5 .. 20 are not. */
    private static void partsAre4AtMost() {
        for (int parts = 1; parts <= 20; parts++) {
            int wanted = parts;
            Consumer<GuaranteeBook> made = book -> {
                for (int i = 0; i < 20; i++) {
                    book.guarantee(5, 10, 1, 1, false, 0);
                }
            };
            GuaranteeBook book = new GuaranteeBook();
            made.accept(book);
            Check.due(parts + " parts", parts <= 4 ? 1 : -202, book.reserve(0, 5, 10 * parts));
            if (parts > 4) {
                NoTrace.due(parts + " parts", -202, made, b -> b.reserve(0, 5, 10 * wanted));
                NoTrace.due("a cent of part " + parts, -202, made, b -> b.reserve(0, 5, 10 * wanted - 9));
            } else {
                Check.due("parts", parts, book.of(1, 4));
            }
        }
    }

    /** "FREE is 0 then, and it is at RISK for what is wanting": at, and next to, where nothing is wanting. */
    private static void riskIsWhatIsWanting() {
        for (int wanting = -1; wanting <= 1; wanting++) {
            GuaranteeBook book = new GuaranteeBook();
            book.guarantee(0, 100, 1, 2, false, 0);
            book.reserve(0, 0, 80);
            book.reserve(0, 0, 100);
            Check.due("claimed", 50 + wanting, book.claim(1, 50 + wanting));
            Check.due("NEEDED", 50, book.look(1, 2));
            Check.due("AMOUNT", 50 - wanting, book.look(1, 1));
            Check.due("FREE", Math.max(0, -wanting), book.look(1, 3));
            Check.due("RISK", Math.max(0, wanting), book.look(1, 7));
            Check.due("MAY COVER", wanting < 0 ? 2 : 0, book.look(1, 4));
            Check.due("the next", wanting < 0 ? 3 : -2, book.reserve(0, 0, 1));
        }
    }

    /** The same at its most: an AMOUNT of 0 with all of it NEEDED by others. */
    private static void riskAtItsMost() {
        GuaranteeBook book = new GuaranteeBook();
        book.guarantee(0, MOST, 1, 2, false, 0);
        book.reserve(0, 0, MOST);
        book.reserve(0, 0, MOST);
        Check.due("all is taken", MOST, book.claim(1, MOST));
        Check.due("AMOUNT", 0, book.look(1, 1));
        Check.due("NEEDED", 500000000L, book.look(1, 2));
        Check.due("FREE", 0, book.look(1, 3));
        Check.due("RISK", 500000000L, book.look(1, 7));
        Check.due("nothing is left to take", 0, book.claim(2, MOST));
        Check.due("RISK behind it", 0, book.look(1, 7));
        Check.due("claimed so far", MOST, book.look(1, 8));
    }

    /** "Of several exceptions the one told first is thrown": in a full book what can't be is told first. */
    private static void theExceptionToldFirstIsThrown() {
        Books full = Books.FULL;
        NoTrace.due("a 21st", Answer.ISE, full, b -> b.guarantee(0, 5, 1, 1, false, 0));
        NoTrace.due("a 21st of no holder", Answer.IAE, full, b -> b.guarantee(8, 5, 1, 1, false, 0));
        NoTrace.due("a 21st of no amount", Answer.IAE, full, b -> b.guarantee(0, 0, 1, 1, false, 0));
        NoTrace.due("a 21st of no share", Answer.IAE, full, b -> b.guarantee(0, 5, 2, 1, false, 0));
        NoTrace.due("a 21st of no rate", Answer.IAE, full, b -> b.guarantee(0, 5, 1, 1, false, 1001));
        NoTrace.due("a 61st", Answer.ISE, full, b -> b.reserve(0, 0, 1));
        NoTrace.due("a 61st at no desk", Answer.IAE, full, b -> b.reserve(4, 0, 1));
        NoTrace.due("a 61st of no holder", Answer.IAE, full, b -> b.reserve(0, 8, 1));
        NoTrace.due("a 61st of no cents", Answer.IAE, full, b -> b.reserve(0, 0, 0));
        NoTrace.due("a 61st of too many cents", Answer.IAE, full, b -> b.reserve(0, 0, MOST + 1));
    }
}
