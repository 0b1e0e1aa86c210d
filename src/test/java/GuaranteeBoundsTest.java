import java.util.function.Consumer;

/** The bounds that promises 1, 2, 3, 8 and 12 to 14 name: a test for each sentence, which stands above it. */
public final class GuaranteeBoundsTest {
    private static final long MOST = 1000000000L;

    public static void main(String[] args) {
        Check.runAll(GuaranteeBoundsTest.class);
    }

    private static Consumer<GuaranteeBook> ofHolder(int holder, int many) {
        return book -> {
            for (int i = 0; i < many; i++) {
                book.guarantee(holder, 10, 1, 1, false, 0);
            }
        };
    }

    private static GuaranteeBook made(Consumer<GuaranteeBook> maker) {
        GuaranteeBook book = new GuaranteeBook();
        maker.accept(book);
        return book;
    }

    private static void order(String when, GuaranteeBook book, int holder, int... numbers) {
        for (int i = 0; i < numbers.length; i++) {
            Check.due(when + ", place " + i, numbers[i], book.list(holder, i));
        }
        Check.due(when + ", behind the last", -1, book.list(holder, numbers.length));
    }

    /** Promise 1, "No guarantees; TODAY 0": what is empty is so for every call. */
    private static void promise01NothingIsThereAtFirst() {
        Books none = Books.EMPTY;
        for (int holder = 0; holder < 8; holder++) {
            int of = holder;
            NoTrace.due("free", 0, none, b -> b.free(of));
            NoTrace.due("list", -1, none, b -> b.list(of, 0));
            NoTrace.due("reserve", -2, none, b -> b.reserve(0, of, 1));
            NoTrace.due("reserve the most", -2, none, b -> b.reserve(3, of, MOST));
        }
        for (int what = 0; what <= 13; what++) {
            int asked = what;
            NoTrace.due("count " + what, what <= 3 || what >= 10 ? 0 : -1, none, b -> b.count(asked));
            NoTrace.due("look " + what, Answer.IOOBE, none, b -> b.look(1, asked));
            NoTrace.due("of " + what, Answer.IOOBE, none, b -> b.of(1, asked));
        }
        for (int desk = 0; desk < 4; desk++) {
            int of = desk;
            NoTrace.due("no desk is to fail", false, none, b -> b.fails(of, false));
        }
        NoTrace.due("first", false, none, b -> b.first(1));
        NoTrace.due("close", false, none, b -> b.close(1));
        NoTrace.due("interest", Answer.IAE, none, b -> b.interest(1));
        NoTrace.due("end", Answer.IAE, none, b -> b.end(1, 1));
        NoTrace.due("reduce", Answer.IAE, none, b -> b.reduce(1, 1));
        NoTrace.due("claim", Answer.IAE, none, b -> b.claim(1, 1));
        NoTrace.due("the day it is", true, none, b -> b.tick(0));
    }

    /** Promise 2, "from TODAY on": on the first, a middle and the last day. */
    private static void promise02BeginsToday() {
        for (int day : new int[] {0, 1, 50000, 99999, 100000}) {
            GuaranteeBook book = new GuaranteeBook();
            book.tick(day);
            book.guarantee(0, 3650000, 1, 1, false, 1);
            Check.due("interest on its first day", 0, book.interest(1));
            book.tick(100000);
            Check.due("interest of the days behind " + day, 100000 - day, book.interest(1));
        }
    }

    /** Promise 2, "its number": the one behind the last that was made, whatever was refused in between. */
    private static void promise02NumbersHaveNoGaps() {
        GuaranteeBook book = new GuaranteeBook();
        for (int number = 1; number <= 20; number++) {
            Check.dueOf("refused before " + number, Answer.IAE, () -> book.guarantee(0, 0, 1, 1, false, 0));
            Check.due("number", number, book.guarantee(0, 1, 1, 1, false, 0));
        }
    }

    /** Promise 2, "IllegalArgumentException if there is no such holder, or amount, share or rate can't be". */
    private static void promise02OneWrongArgumentIsEnough() {
        NoTrace.dueInAll("a holder below", Answer.IAE, b -> b.guarantee(-1, 1, 0, 1, false, 0));
        NoTrace.dueInAll("a holder above", Answer.IAE, b -> b.guarantee(8, MOST, 100, 100, true, 1000));
        NoTrace.dueInAll("an amount below", Answer.IAE, b -> b.guarantee(0, 0, 0, 1, false, 0));
        NoTrace.dueInAll("an amount above", Answer.IAE, b -> b.guarantee(7, MOST + 1, 100, 100, true, 1000));
        NoTrace.dueInAll("up below", Answer.IAE, b -> b.guarantee(0, 1, -1, 1, false, 0));
        NoTrace.dueInAll("up above down", Answer.IAE, b -> b.guarantee(7, MOST, 100, 99, true, 1000));
        NoTrace.dueInAll("down below", Answer.IAE, b -> b.guarantee(0, 1, 0, 0, false, 0));
        NoTrace.dueInAll("down above", Answer.IAE, b -> b.guarantee(7, MOST, 100, 101, true, 1000));
        NoTrace.dueInAll("a rate below", Answer.IAE, b -> b.guarantee(0, 1, 0, 1, false, -1));
        NoTrace.dueInAll("a rate above", Answer.IAE, b -> b.guarantee(7, MOST, 100, 100, true, 1001));
        GuaranteeBook book = new GuaranteeBook();
        Check.due("the least of all", 1, book.guarantee(0, 1, 0, 1, false, 0));
        Check.due("the most of all", 2, book.guarantee(7, MOST, 100, 100, true, 1000));
    }

    /** Promise 2, "IllegalStateException if there are 20": at 19 not, at 20 so, closed and empty ones among them. */
    private static void promise02TwentyAreAll() {
        Check.due("the 20th", 20, made(ofHolder(3, 19)).guarantee(3, 1, 1, 1, false, 0));
        NoTrace.due("the 21st", Answer.ISE, ofHolder(3, 20), b -> b.guarantee(3, 1, 1, 1, false, 0));
        NoTrace.due("of another holder", Answer.ISE, ofHolder(3, 20), b -> b.guarantee(4, 1, 1, 1, true, 7));
        Consumer<GuaranteeBook> closed = ofHolder(3, 20).andThen(b -> {
            for (int number = 1; number <= 20; number++) {
                b.close(number);
            }
        });
        NoTrace.due("all closed", Answer.ISE, closed, b -> b.guarantee(3, 1, 1, 1, false, 0));
        Consumer<GuaranteeBook> claimed = ofHolder(3, 20).andThen(b -> b.claim(b.reserve(0, 3, 40), 40));
        NoTrace.due("some without an amount", Answer.ISE, claimed, b -> b.guarantee(3, 1, 1, 1, false, 0));
    }

    /** Promise 3, "false if .. it does": the only one, the first by number, and one that was told to. */
    private static void promise03FirstAlready() {
        NoTrace.due("the only one", false, ofHolder(2, 1), b -> b.first(1));
        NoTrace.due("the first by number", false, ofHolder(2, 20), b -> b.first(1));
        for (int number = 2; number <= 20; number++) {
            int told = number;
            NoTrace.due(number + " told twice", false, ofHolder(2, 20).andThen(b -> b.first(told)), b -> b.first(told));
        }
        Consumer<GuaranteeBook> twoHolders = ofHolder(2, 3).andThen(ofHolder(5, 2));
        NoTrace.due("first of its own holder's", false, twoHolders, b -> b.first(4));
        Check.due("not first of its own holder's", true, made(twoHolders).first(5));
    }

    /** Promise 3, "A guarantee goes FIRST of its holder's": from each place, the others as they stood. */
    private static void promise03FromEachPlace() {
        for (int many = 2; many <= 20; many++) {
            for (int number = 2; number <= many; number++) {
                GuaranteeBook book = made(ofHolder(7, many));
                Check.due("first " + number, true, book.first(number));
                int[] due = new int[many];
                due[0] = number;
                for (int i = 1; i < many; i++) {
                    due[i] = i < number ? i : i + 1;
                }
                order(number + " of " + many, book, 7, due);
            }
        }
    }

    /** Promise 3, the same: one behind the other, and other holders' orders stay. */
    private static void promise03OneBehindTheOther() {
        GuaranteeBook book = made(ofHolder(1, 4).andThen(ofHolder(6, 3)));
        book.first(3);
        order("3", book, 1, 3, 1, 2, 4);
        book.first(4);
        order("4", book, 1, 4, 3, 1, 2);
        book.first(1);
        order("1", book, 1, 1, 4, 3, 2);
        book.first(4);
        order("4 again", book, 1, 4, 1, 3, 2);
        order("the other holder's", book, 6, 5, 6, 7);
        book.guarantee(1, 10, 1, 1, false, 0);
        order("a new one", book, 1, 4, 1, 3, 2, 8);
    }

    /** Promise 3, the same: also one that is closed, used up, or at risk. */
    private static void promise03WhateverItsState() {
        GuaranteeBook book = Books.MIXED.make();
        order("before", book, 0, 4, 1, 2, 3);
        Check.due("one in use", true, book.first(2));
        Check.due("one at risk", true, book.first(4));
        order("behind", book, 0, 4, 2, 1, 3);
        Check.due("behind a closed one", true, book.first(6));
        Check.due("a closed one", true, book.first(5));
        order("a closed one first", book, 7, 5, 6);
    }

    /** Promise 8, "false if .. it is": closed once, with and without reservations, however late. */
    private static void promise08ClosedAlready() {
        NoTrace.due("closed before", false, Books.MIXED, b -> b.close(5));
        for (int number = 1; number <= 20; number++) {
            int told = number;
            Consumer<GuaranteeBook> closed = Books.FULL.andThen(b -> Check.due("close", true, b.close(told)));
            NoTrace.due("close " + number + " again", false, closed, b -> b.close(told));
        }
        Consumer<GuaranteeBook> closedEarly = ofHolder(0, 1).andThen(b -> {
            b.close(1);
            b.tick(100000);
        });
        NoTrace.due("on the last day", false, closedEarly, b -> b.close(1));
    }

    /** Promise 12, "(2000000000 at most)": one below, at, one above, and far above. */
    private static void promise12FreeAtItsMost() {
        long[][] amounts = {{MOST, MOST - 1}, {MOST, MOST - 1, 1}, {MOST, MOST}, {MOST, MOST, 1}, {MOST, MOST, MOST}};
        long[] due = {1999999999L, 2000000000L, 2000000000L, 2000000000L, 2000000000L};
        for (int i = 0; i < due.length; i++) {
            GuaranteeBook book = new GuaranteeBook();
            for (long amount : amounts[i]) {
                book.guarantee(7, amount, 1, 1, false, 0);
            }
            Check.due("free " + i, due[i], book.free(7));
            Check.due("free of another holder", 0, book.free(6));
        }
        GuaranteeBook small = new GuaranteeBook();
        for (int i = 0; i < 20; i++) {
            small.guarantee(0, MOST, 1, 100, false, 0);
            Check.due("with small shares", 2000000000L, small.free(0));
        }
        GuaranteeBook zero = new GuaranteeBook();
        for (int i = 1; i <= 20; i++) {
            zero.guarantee(0, 1, 0, 1, false, 0);
            Check.due(i + " of a share of 0", Math.min(2000000000L, i * MOST), zero.free(0));
        }
    }

    /** Promise 12, the same: at the most still while what is above it is reserved, then below. */
    private static void promise12FreeBehindReservations() {
        GuaranteeBook book = new GuaranteeBook();
        book.guarantee(0, MOST, 1, 1, false, 0);
        book.guarantee(0, MOST, 1, 1, false, 0);
        book.guarantee(0, 1, 1, 1, false, 0);
        book.reserve(0, 0, 1);
        Check.due("one reserved of 2000000001", 2000000000L, book.free(0));
        book.reserve(0, 0, 1);
        Check.due("two reserved", 1999999999L, book.free(0));
    }

    /** Promise 13, "NONE without": the i-th counts from 0; next to both ends, far off, and of an empty holder. */
    private static void promise13NoSuchPlace() {
        for (int many : new int[] {0, 1, 2, 19, 20}) {
            Consumer<GuaranteeBook> maker = ofHolder(4, many);
            int[] none = {Integer.MIN_VALUE, Integer.MIN_VALUE + 1, -20, -1, many, many + 1, many + 256, 65536,
                Integer.MAX_VALUE};
            for (int i : none) {
                NoTrace.due("list " + i + " of " + many, -1, maker, b -> b.list(4, i));
            }
            for (int i = 0; i < many; i++) {
                Check.due("list " + i + " of " + many, i + 1, made(maker).list(4, i));
            }
            NoTrace.due("of the holder before", -1, maker, b -> b.list(3, 0));
            NoTrace.due("of the holder behind", -1, maker, b -> b.list(5, 0));
        }
    }

    /** Promise 14, "no such what": 0 .. 8 are all, in every state of a guarantee. */
    private static void promise14NoSuchWhat() {
        for (Books made : new Books[] {Books.MIXED, Books.FULL}) {
            for (int number : new int[] {1, made.guarantees}) {
                for (int none : Outside.WHATS) {
                    NoTrace.due(made + ", look " + none, Answer.IOOBE, made, b -> b.look(number, none));
                }
                NoTrace.due(made + ", look 9", Answer.IOOBE, made, b -> b.look(number, 9));
                NoTrace.due(made + ", look 10", Answer.IOOBE, made, b -> b.look(number, 10));
            }
        }
        NoTrace.dueInAll("neither is there", Answer.IOOBE, b -> b.look(21, 9));
        NoTrace.dueInAll("neither is there", Answer.IOOBE, b -> b.look(0, -1));
    }

    /** Promise 14, each what at its least and at its most. */
    private static void promise14EachWhatAtItsEnds() {
        GuaranteeBook book = new GuaranteeBook();
        book.guarantee(0, 1, 1, 1, false, 0);
        book.guarantee(7, MOST, 1, 100, false, 0);
        looks("the least", book, 1, 0, 1, 0, 1, 1, 0, 0, 0, 0);
        looks("the most", book, 2, 7, MOST, 0, MOST, 100000000000L, 0, 0, 0, 0);
        for (int i = 1; i <= 60; i++) {
            book.reserve(0, 7, MOST);
        }
        looks("60 times the most", book, 2, 7, MOST, 600000000L, 400000000L, 40000000000L, 60, 0, 0, 0);
        book.claim(60, MOST);
        looks("all claimed", book, 2, 7, 0, 590000000L, 0, 0, 59, 0, 590000000L, MOST);
        book.close(2);
        looks("closed", book, 2, 7, 0, 590000000L, 0, 0, 59, 1, 590000000L, MOST);
        looks("the other", book, 1, 0, 1, 0, 1, 1, 0, 0, 0, 0);
    }

    private static void looks(String when, GuaranteeBook book, int number, long... due) {
        for (int what = 0; what < due.length; what++) {
            Check.due(when + ", look " + what, due[what], book.look(number, what));
        }
    }

    /** Promise 14, "NEEDED by its reservations": each of them rounded up by itself, and each only while it lives. */
    private static void promise14NeededOfManySmallOnes() {
        GuaranteeBook book = new GuaranteeBook();
        book.guarantee(0, 60, 1, 100, false, 0);
        for (int i = 1; i <= 60; i++) {
            Check.due("MAY COVER", 100L * (61 - i), book.look(1, 4));
            Check.due("one cent", i, book.reserve(0, 0, 1));
            Check.due("NEEDED", i, book.look(1, 2));
        }
        Check.due("FREE", 0, book.look(1, 3));
        for (int i = 1; i <= 60; i++) {
            book.end(i, 2);
            Check.due("NEEDED behind the end of " + i, 60 - i, book.look(1, 2));
            Check.due("reservations", 60 - i, book.look(1, 5));
        }
    }
}
