/**
 * Runs of later calls that would show what a call before them has changed. Each runs on a book of its own and
 * is short enough to stay, with what made the book, within the 512 calls that are promised.
 */
enum Later {
    COUNTS {
        @Override
        void run(GuaranteeBook book) {
            for (int what = -1; what < 10; what++) {
                add(book.count(what));
            }
        }
    },

    FAILURES {
        @Override
        void run(GuaranteeBook book) {
            for (int desk = 0; desk < 4; desk++) {
                add(book.count(10 + desk));
            }
        }
    },

    HOLDERS {
        @Override
        void run(GuaranteeBook book) {
            holders(book);
        }
    },

    GUARANTEES {
        @Override
        void run(GuaranteeBook book) {
            for (int number = 1; number <= 21; number++) {
                looks(book, number, 0, 1, 2, 3, 4, 5, 6, 7, 8);
                int asked = number;
                add(Answer.of(() -> book.interest(asked)));
            }
        }
    },

    RESERVATIONS_TO_20 {
        @Override
        void run(GuaranteeBook book) {
            reservations(book, 1, 20);
        }
    },

    RESERVATIONS_TO_40 {
        @Override
        void run(GuaranteeBook book) {
            reservations(book, 21, 40);
        }
    },

    RESERVATIONS_TO_61 {
        @Override
        void run(GuaranteeBook book) {
            reservations(book, 41, 61);
        }
    },

    DESKS_TOLD {
        @Override
        void run(GuaranteeBook book) {
            for (int desk = 0; desk < 4; desk++) {
                add(book.fails(desk, false));
                add(book.fails(desk, true));
            }
        }
    },

    DESKS_USED {
        @Override
        void run(GuaranteeBook book) {
            for (int desk = 0; desk < 4; desk++) {
                for (int holder = 0; holder < 8; holder++) {
                    int atDesk = desk;
                    int ofHolder = holder;
                    add(Answer.of(() -> book.reserve(atDesk, ofHolder, 3)));
                }
            }
            reservations(book, 1, 8);
        }
    },

    ALL_RESERVED {
        @Override
        void run(GuaranteeBook book) {
            for (int holder = 0; holder < 8; holder++) {
                int ofHolder = holder;
                long all = Math.max(1, Math.min(1000000000L, book.free(holder)));
                add(Answer.of(() -> book.reserve(0, ofHolder, all)));
            }
            holders(book);
        }
    },

    ALL_ENDED {
        @Override
        void run(GuaranteeBook book) {
            for (int number = 1; number <= 61; number++) {
                int asked = number;
                add(Answer.of(() -> book.end(asked, 2)));
            }
            holders(book);
        }
    },

    ALL_REDUCED {
        @Override
        void run(GuaranteeBook book) {
            for (int number = 1; number <= 61; number++) {
                int asked = number;
                add(Answer.of(() -> book.reduce(asked, 1)));
            }
            holders(book);
        }
    },

    ALL_CLAIMED {
        @Override
        void run(GuaranteeBook book) {
            for (int number = 1; number <= 61; number++) {
                int asked = number;
                add(Answer.of(() -> book.claim(asked, 2)));
            }
            for (int number = 1; number <= 21; number++) {
                looks(book, number, 1, 2, 7, 8);
            }
        }
    },

    DAYS_GONE_BY {
        @Override
        void run(GuaranteeBook book) {
            int today = book.count(3);
            for (int day : new int[] {today - 1, today, today + 1, 100000}) {
                add(book.tick(day));
                interests(book);
            }
        }
    },

    CLAIMED_AND_A_DAY_GONE_BY {
        @Override
        void run(GuaranteeBook book) {
            for (int number = 1; number <= 61; number++) {
                int asked = number;
                add(Answer.of(() -> book.claim(asked, 1)));
            }
            add(book.tick(book.count(3) + 1));
            interests(book);
        }
    },

    GIVEN_MORE {
        @Override
        void run(GuaranteeBook book) {
            for (int holder = 0; holder < 8; holder++) {
                int ofHolder = holder;
                add(Answer.of(() -> book.guarantee(ofHolder, 3650000, 1, 1, true, 1)));
            }
            add(book.tick(book.count(3) + 1));
            interests(book);
            holders(book);
        }
    },

    ORDERED {
        @Override
        void run(GuaranteeBook book) {
            for (int number = 21; number >= 1; number--) {
                add(book.first(number));
            }
            holders(book);
        }
    },

    CLOSED {
        @Override
        void run(GuaranteeBook book) {
            for (int number = 1; number <= 21; number++) {
                add(book.close(number));
            }
            add(book.tick(book.count(3) + 2));
            interests(book);
            holders(book);
        }
    };

    private final StringBuilder text = new StringBuilder();

    abstract void run(GuaranteeBook book);

    /** What the calls answer, as one text. */
    String answersOf(GuaranteeBook book) {
        text.setLength(0);
        run(book);
        return text.toString();
    }

    void add(Object answer) {
        text.append(answer).append(' ');
    }

    void holders(GuaranteeBook book) {
        for (int holder = 0; holder < 8; holder++) {
            add(book.free(holder));
            for (int i = 0; book.list(holder, i) != GuaranteeBook.NONE; i++) {
                add(book.list(holder, i));
            }
        }
    }

    void looks(GuaranteeBook book, int number, int... whats) {
        for (int what : whats) {
            add(Answer.of(() -> book.look(number, what)));
        }
    }

    void interests(GuaranteeBook book) {
        for (int number = 1; number <= 21; number++) {
            int asked = number;
            add(Answer.of(() -> book.interest(asked)));
        }
    }

    void reservations(GuaranteeBook book, int from, int to) {
        for (int number = from; number <= to; number++) {
            for (int what = 0; what <= 12; what++) {
                int asked = number;
                int told = what;
                add(Answer.of(() -> book.of(asked, told)));
            }
        }
    }
}
