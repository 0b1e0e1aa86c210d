import java.util.function.Consumer;

/** Books in which calls that are refused are tried: with nothing, with something of everything, and full. */
enum Books implements Consumer<GuaranteeBook> {
    EMPTY(0, 0) {
        @Override
        public void accept(GuaranteeBook book) {
            // A new object is what is wanted.
        }
    },

    /** Holders 0 and 7; a single, a closed and a used up guarantee, one at risk; all ways to end; a failure. */
    MIXED(6, 6) {
        @Override
        public void accept(GuaranteeBook book) {
            // 1.5 cents of interest a day: a row of days that ends too soon would lose the half.
            book.guarantee(0, 5475000, 1, 1, false, 1);
            book.tick(1);
            book.guarantee(0, 1000, 2, 3, true, 0);
            book.guarantee(0, 500, 0, 1, false, 1000);
            book.guarantee(0, 5475000, 1, 2, false, 1);
            book.guarantee(7, 10, 1, 1, false, 0);
            book.guarantee(7, 20, 1, 1, true, 0);
            book.first(4);
            book.reserve(0, 0, 8000000);
            book.reserve(1, 0, 2950100);
            book.reserve(2, 7, 15);
            book.reserve(3, 0, 40);
            book.reserve(3, 0, 40);
            book.reserve(0, 0, 5476360);
            book.end(4, 1);
            book.end(5, 2);
            book.claim(1, 5000000);
            book.close(5);
            book.fails(1, true);
            book.reserve(1, 0, 1);
            book.fails(2, true);
            book.tick(4);
        }
    },

    /** 20 guarantees and 60 reservations on the last day. */
    FULL(20, 60) {
        @Override
        public void accept(GuaranteeBook book) {
            for (int i = 1; i <= 20; i++) {
                book.guarantee(i % 8, 100000L * i, 1, 1 + i % 3, false, i);
            }
            book.tick(99000);
            for (int i = 1; i <= 60; i++) {
                book.reserve(i % 4, i % 8, i);
            }
            for (int i = 5; i <= 60; i += 5) {
                book.end(i, 1 + i % 2);
                book.claim(i - 1, 1);
            }
            book.fails(3, true);
            book.tick(100000);
        }
    };

    final int guarantees;
    final int reservations;

    Books(int guarantees, int reservations) {
        this.guarantees = guarantees;
        this.reservations = reservations;
    }

    GuaranteeBook make() {
        GuaranteeBook book = new GuaranteeBook();
        accept(book);
        return book;
    }
}
