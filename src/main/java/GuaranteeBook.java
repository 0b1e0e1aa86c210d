/** Guarantees that holders give for debts, and the reservations that desks make of them. */
public final class GuaranteeBook {
    public static final int NONE = -1;

    private static final int HOLDERS = 8;
    private static final int DESKS = 4;
    private static final int MOST_GUARANTEES = 20;
    private static final int MOST_RESERVATIONS = 60;
    private static final int MOST_PARTS = 4;
    private static final int MOST_OF_SHARE = 100;
    private static final int MOST_RATE = 1000;
    private static final int LAST_DAY = 100000;
    private static final long MOST_CENTS = 1000000000L;
    private static final long MOST_TOGETHER = 2000000000L;
    /** 365 days a year, and rates in hundredths of one in 100. */
    private static final long INTEREST_DIVISOR = 3650000L;

    private static final int LIVE = 0;
    private static final int RELEASED = 1;
    private static final int PAID = 2;
    private static final int CLAIMED = 3;

    /** A refusal answers this, less what the holder's guarantees may cover. */
    private static final int REFUSED = -2;
    /** Where the parts' guarantees and what they cover begin among the whats of a reservation. */
    private static final int WHAT_GUARANTEES = 5;
    private static final int WHAT_COVERS = 9;
    /** Where the desks' failures begin among the whats of the book. */
    private static final int WHAT_FAILURES = 10;

    private final Guarantee[] guarantees = new Guarantee[MOST_GUARANTEES];
    /** The first guarantee of each holder; the others follow it by their next, in the holder's order. */
    private final Guarantee[] firsts = new Guarantee[HOLDERS];
    private final Reservation[] reservations = new Reservation[MOST_RESERVATIONS];
    private final boolean[] failing = new boolean[DESKS];
    private final int[] failures = new int[DESKS];
    /** Filled anew by each try to reserve, so that a try that comes to nothing makes no object. */
    private Reservation draft = new Reservation();
    private int guaranteeCount;
    private int reservationCount;
    private int liveCount;
    private int today;

    public GuaranteeBook() {
    }

    public int guarantee(int holder, long amount, int up, int down, boolean single, int rate)
            throws IllegalArgumentException, IllegalStateException {
        if (!isHolder(holder) || !isCents(amount) || !isShare(up, down) || rate < 0 || rate > MOST_RATE) {
            throw new IllegalArgumentException("no such holder, amount, share or rate");
        }
        if (guaranteeCount >= MOST_GUARANTEES) {
            throw new IllegalStateException("there are as many guarantees as there may be");
        }
        int number = guaranteeCount + 1;
        Guarantee made = new Guarantee(
                number, holder, amount, new Share(up, down), single, new Interest(rate, today));
        guarantees[guaranteeCount] = made;
        guaranteeCount = number;
        putLast(made);
        return number;
    }

    public boolean first(int guarantee) {
        Guarantee g = guaranteeNumbered(guarantee);
        if (g == null || firsts[g.holder] == g) {
            return false;
        }
        putFirst(g);
        return true;
    }

    public int reserve(int desk, int holder, long cents)
            throws IllegalArgumentException, IllegalStateException {
        if (!isDesk(desk) || !isHolder(holder) || !isCents(cents)) {
            throw new IllegalArgumentException("no such desk, holder or debt");
        }
        if (reservationCount >= MOST_RESERVATIONS) {
            throw new IllegalStateException("there are as many reservations as there may be");
        }
        if (!draftCovers(holder, cents)) {
            return (int) (REFUSED - mayCoverTogether(holder));
        }
        if (failing[desk]) {
            failing[desk] = false;
            failures[desk]++;
            return NONE;
        }
        return keepDraft();
    }

    public int end(int reservation, int how) throws IllegalArgumentException {
        Reservation r = reservationNumbered(reservation);
        if (r == null || how != RELEASED && how != PAID) {
            throw new IllegalArgumentException("no such reservation or way to end");
        }
        if (r.state != LIVE) {
            return 0;
        }
        r.dropParts();
        finish(r, how);
        return 1;
    }

    public long reduce(int reservation, long cents) throws IllegalArgumentException {
        Reservation r = reservationNumbered(reservation);
        if (r == null || cents < 1) {
            throw new IllegalArgumentException("no such reservation or cents");
        }
        if (r.state != LIVE || r.covered() <= cents) {
            return NONE;
        }
        r.shrinkBy(cents);
        return r.covered();
    }

    public long claim(int reservation, long cents) throws IllegalArgumentException {
        Reservation r = reservationNumbered(reservation);
        if (r == null || cents < 1) {
            throw new IllegalArgumentException("no such reservation or cents");
        }
        if (r.state != LIVE || r.covered() < cents) {
            return NONE;
        }
        long lost = r.takeFromAmounts(cents, today);
        r.dropParts();
        finish(r, CLAIMED);
        return lost;
    }

    public boolean close(int guarantee) {
        Guarantee g = guaranteeNumbered(guarantee);
        if (g == null || g.closed) {
            return false;
        }
        g.shut(today);
        return true;
    }

    public boolean fails(int desk, boolean on) {
        if (!isDesk(desk) || failing[desk] == on) {
            return false;
        }
        failing[desk] = on;
        return true;
    }

    public boolean tick(int day) {
        if (day < today || day > LAST_DAY) {
            return false;
        }
        today = day;
        return true;
    }

    public long interest(int guarantee) throws IllegalArgumentException {
        Guarantee g = guaranteeNumbered(guarantee);
        if (g == null) {
            throw new IllegalArgumentException("no such guarantee");
        }
        return g.interest.upTo(today, g.amount);
    }

    public long free(int holder) {
        return isHolder(holder) ? mayCoverTogether(holder) : NONE;
    }

    public int list(int holder, int i) {
        if (!isHolder(holder) || i < 0) {
            return NONE;
        }
        int at = 0;
        for (Guarantee g = firsts[holder]; g != null; g = g.next) {
            if (at == i) {
                return g.number;
            }
            at++;
        }
        return NONE;
    }

    public long look(int guarantee, int what) throws IndexOutOfBoundsException {
        Guarantee g = guaranteeNumbered(guarantee);
        if (g == null) {
            throw new IndexOutOfBoundsException("no such guarantee");
        }
        switch (what) {
            case 0: return g.holder;
            case 1: return g.amount;
            case 2: return g.needed;
            case 3: return g.unneeded();
            case 4: return g.mayCover();
            case 5: return g.uses;
            case 6: return g.closed ? 1 : 0;
            case 7: return g.risk();
            case 8: return g.claimed;
            default: throw new IndexOutOfBoundsException("no such what of a guarantee");
        }
    }

    public long of(int reservation, int what) throws IndexOutOfBoundsException {
        Reservation r = reservationNumbered(reservation);
        if (r == null) {
            throw new IndexOutOfBoundsException("no such reservation");
        }
        if (r.hasPart(what - WHAT_GUARANTEES)) {
            return r.numberOfPart(what - WHAT_GUARANTEES);
        }
        if (r.hasPart(what - WHAT_COVERS)) {
            return r.covers[what - WHAT_COVERS];
        }
        switch (what) {
            case 0: return r.holder;
            case 1: return r.debt;
            case 2: return r.covered();
            case 3: return r.state;
            case 4: return r.parts;
            default: throw new IndexOutOfBoundsException("no such what or part of a reservation");
        }
    }

    public int count(int what) {
        if (what >= WHAT_FAILURES && isDesk(what - WHAT_FAILURES)) {
            return failures[what - WHAT_FAILURES];
        }
        switch (what) {
            case 0: return guaranteeCount;
            case 1: return reservationCount;
            case 2: return liveCount;
            case 3: return today;
            default: return NONE;
        }
    }

    private static boolean isHolder(int holder) {
        return holder >= 0 && holder < HOLDERS;
    }

    private static boolean isDesk(int desk) {
        return desk >= 0 && desk < DESKS;
    }

    private static boolean isCents(long cents) {
        return cents >= 1 && cents <= MOST_CENTS;
    }

    private static boolean isShare(int up, int down) {
        return up >= 0 && down >= 1 && down <= MOST_OF_SHARE && up <= down;
    }

    private Guarantee guaranteeNumbered(int number) {
        return number >= 1 && number <= guaranteeCount ? guarantees[number - 1] : null;
    }

    private Reservation reservationNumbered(int number) {
        return number >= 1 && number <= reservationCount ? reservations[number - 1] : null;
    }

    private void putLast(Guarantee g) {
        Guarantee last = firsts[g.holder];
        if (last == null) {
            firsts[g.holder] = g;
            return;
        }
        while (last.next != null) {
            last = last.next;
        }
        last.next = g;
    }

    private void putFirst(Guarantee g) {
        Guarantee before = firsts[g.holder];
        while (before != null && before.next != g) {
            before = before.next;
        }
        if (before != null) {
            before.next = g.next;
            g.next = firsts[g.holder];
            firsts[g.holder] = g;
        }
    }

    private long mayCoverTogether(int holder) {
        long sum = 0;
        for (Guarantee g = firsts[holder]; g != null; g = g.next) {
            sum += g.mayCover();
        }
        return Math.min(sum, MOST_TOGETHER);
    }

    /** Leaves the guarantees as they are: they know nothing of a draft before it is kept. */
    private boolean draftCovers(int holder, long cents) {
        draft.beginFor(holder, cents);
        long wanted = cents;
        for (Guarantee g = firsts[holder]; g != null && wanted > 0; g = g.next) {
            long covers = Math.min(wanted, g.mayCover());
            if (covers > 0 && !draft.addPart(g, covers)) {
                return false;
            }
            wanted -= covers;
        }
        return wanted == 0;
    }

    private int keepDraft() {
        draft.bindParts();
        reservations[reservationCount] = draft;
        reservationCount++;
        liveCount++;
        draft = new Reservation();
        return reservationCount;
    }

    private void finish(Reservation r, int how) {
        r.state = how;
        liveCount--;
    }

    /** What a guarantee needs of its amount to cover a debt. */
    private static final class Share {
        private final int up;
        private final int down;

        Share(int up, int down) {
            this.up = up;
            this.down = down;
        }

        long neededFor(long cents) {
            return down == 0 ? 0 : (cents * up + down - 1) / down;
        }

        long mostFor(long unneeded) {
            return up == 0 ? MOST_CENTS : unneeded * down / up;
        }
    }

    /** Interest in rows of days with one amount; each row is rounded down by itself. */
    private static final class Interest {
        private final int rate;
        private long ofEndedRows;
        private int rowBegin;
        private boolean stopped;

        Interest(int rate, int day) {
            this.rate = rate;
            this.rowBegin = day;
        }

        long upTo(int day, long amount) {
            return stopped ? ofEndedRows : ofEndedRows + amount * rate * (day - rowBegin) / INTEREST_DIVISOR;
        }

        void endRow(int day, long amount) {
            ofEndedRows = upTo(day, amount);
            rowBegin = day;
        }

        void stop(int day, long amount) {
            endRow(day, amount);
            stopped = true;
        }
    }

    private static final class Guarantee {
        private final int number;
        private final int holder;
        private final Share share;
        private final boolean single;
        private final Interest interest;
        private long amount;
        private long needed;
        private long claimed;
        private int uses;
        private boolean closed;
        private Guarantee next;

        Guarantee(int number, int holder, long amount, Share share, boolean single, Interest interest) {
            this.number = number;
            this.holder = holder;
            this.amount = amount;
            this.share = share;
            this.single = single;
            this.interest = interest;
        }

        long unneeded() {
            return Math.max(0L, amount - needed);
        }

        long risk() {
            return Math.max(0L, needed - amount);
        }

        long mayCover() {
            return closed || single && uses > 0 ? 0 : share.mostFor(unneeded());
        }

        void changePart(long before, long after) {
            needed += share.neededFor(after) - share.neededFor(before);
            if (before == 0) {
                uses++;
            }
            if (after == 0) {
                uses--;
            }
        }

        long loseUpTo(long cents, int day) {
            long lost = Math.min(amount, cents);
            // Where the amount stays the row of days goes on: to end it would round once too often.
            if (lost > 0) {
                interest.endRow(day, amount);
                amount -= lost;
                claimed += lost;
            }
            return lost;
        }

        void shut(int day) {
            interest.stop(day, amount);
            closed = true;
        }
    }

    private static final class Reservation {
        private final Guarantee[] from = new Guarantee[MOST_PARTS];
        private final long[] covers = new long[MOST_PARTS];
        private int parts;
        private int holder;
        private long debt;
        private int state = LIVE;

        void beginFor(int holder, long debt) {
            this.holder = holder;
            this.debt = debt;
            this.parts = 0;
        }

        boolean addPart(Guarantee g, long cents) {
            if (parts >= MOST_PARTS) {
                return false;
            }
            from[parts] = g;
            covers[parts] = cents;
            parts++;
            return true;
        }

        boolean hasPart(int i) {
            return i >= 0 && i < parts;
        }

        int numberOfPart(int i) {
            Guarantee g = from[i];
            return g == null ? NONE : g.number;
        }

        long covered() {
            long sum = 0;
            for (int i = 0; i < parts; i++) {
                sum += covers[i];
            }
            return sum;
        }

        void bindParts() {
            for (int i = 0; i < parts; i++) {
                tellGuarantee(i, 0, covers[i]);
            }
        }

        void dropParts() {
            for (int i = 0; i < parts; i++) {
                tellGuarantee(i, covers[i], 0);
            }
            parts = 0;
        }

        void shrinkBy(long cents) {
            long left = cents;
            for (int i = parts - 1; i >= 0 && left > 0; i--) {
                long less = Math.min(left, covers[i]);
                tellGuarantee(i, covers[i], covers[i] - less);
                covers[i] -= less;
                left -= less;
                if (covers[i] == 0) {
                    parts = i;
                }
            }
        }

        long takeFromAmounts(long cents, int day) {
            long left = cents;
            long lost = 0;
            for (int i = 0; i < parts; i++) {
                Guarantee g = from[i];
                long taken = Math.min(left, covers[i]);
                left -= taken;
                if (g != null) {
                    lost += g.loseUpTo(taken, day);
                }
            }
            return lost;
        }

        private void tellGuarantee(int i, long before, long after) {
            Guarantee g = from[i];
            if (g != null) {
                g.changePart(before, after);
            }
        }
    }
}
