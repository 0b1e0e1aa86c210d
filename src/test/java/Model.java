import java.util.ArrayList;
import java.util.List;

/**
 * The document's words worked out slowly: nothing is kept that can be worked out anew from what happened,
 * so that a total of the class that drifts from its parts shows.
 */
final class Model {
    private static final class Security {
        int holder;
        int up;
        int down;
        boolean single;
        int rate;
        int begun;
        int closed = -1;
        long amount;
        long claimed;
        /** The amount at the end of each day since it began, day by day. */
        final List<Long> atEnd = new ArrayList<>();
    }

    private static final class Debt {
        int holder;
        long cents;
        int how;
        final List<long[]> parts = new ArrayList<>();
    }

    private final List<Security> securities = new ArrayList<>();
    private final List<List<Integer>> orders = new ArrayList<>();
    private final List<Debt> debts = new ArrayList<>();
    private final boolean[] failing = new boolean[4];
    private final int[] failures = new int[4];
    private int today = 0;

    Model() {
        for (int i = 0; i < 8; i++) {
            orders.add(new ArrayList<>());
        }
    }

    private static void argument(boolean good) {
        if (!good) {
            throw new IllegalArgumentException();
        }
    }

    private static void index(boolean good) {
        if (!good) {
            throw new IndexOutOfBoundsException();
        }
    }

    private static boolean within(long x, long least, long most) {
        return least <= x && x <= most;
    }

    private boolean isSecurity(int number) {
        return within(number, 1, securities.size());
    }

    private boolean isDebt(int number) {
        return within(number, 1, debts.size());
    }

    private static long needs(Security s, long cents) {
        long product = cents * s.up;
        return product / s.down + (product % s.down == 0 ? 0 : 1);
    }

    private long uses(int number) {
        return debts.stream().filter(d -> d.parts.stream().anyMatch(p -> p[0] == number)).count();
    }

    private long needed(int number) {
        long sum = 0;
        for (Debt d : debts) {
            for (long[] part : d.parts) {
                sum += part[0] == number ? needs(securities.get(number - 1), part[1]) : 0;
            }
        }
        return sum;
    }

    private long mayCover(int number) {
        Security s = securities.get(number - 1);
        if (s.closed >= 0 || s.single && uses(number) > 0) {
            return 0;
        }
        long free = look(number, 3);
        long least = 0;
        long most = s.up == 0 ? 1000000000L : 100000000000L;
        while (least < most) {
            long middle = (least + most + 1) / 2;
            if (needs(s, middle) <= free) {
                least = middle;
            } else {
                most = middle - 1;
            }
        }
        return least;
    }

    int guarantee(int holder, long amount, int up, int down, boolean single, int rate) {
        argument(within(holder, 0, 7) && within(amount, 1, 1000000000L));
        argument(within(up, 0, 100) && within(down, 1, 100) && up <= down && within(rate, 0, 1000));
        if (securities.size() == 20) {
            throw new IllegalStateException();
        }
        Security s = new Security();
        s.holder = holder;
        s.amount = amount;
        s.up = up;
        s.down = down;
        s.single = single;
        s.rate = rate;
        s.begun = today;
        securities.add(s);
        orders.get(holder).add(securities.size());
        return securities.size();
    }

    boolean first(int number) {
        if (!isSecurity(number)) {
            return false;
        }
        List<Integer> order = orders.get(securities.get(number - 1).holder);
        if (order.get(0) == number) {
            return false;
        }
        order.remove(Integer.valueOf(number));
        order.add(0, number);
        return true;
    }

    int reserve(int desk, int holder, long cents) {
        argument(within(desk, 0, 3) && within(holder, 0, 7) && within(cents, 1, 1000000000L));
        if (debts.size() == 60) {
            throw new IllegalStateException();
        }
        Debt d = new Debt();
        d.holder = holder;
        d.cents = cents;
        long wanted = cents;
        for (int number : orders.get(holder)) {
            long covers = Math.min(wanted, mayCover(number));
            if (covers > 0) {
                d.parts.add(new long[] {number, covers});
                wanted -= covers;
            }
        }
        if (wanted > 0 || d.parts.size() > 4) {
            return (int) (-2 - free(holder));
        }
        if (failing[desk]) {
            failing[desk] = false;
            failures[desk]++;
            return -1;
        }
        debts.add(d);
        return debts.size();
    }

    private static long covered(Debt d) {
        return d.parts.stream().mapToLong(p -> p[1]).sum();
    }

    int end(int number, int how) {
        argument(isDebt(number) && within(how, 1, 2));
        Debt d = debts.get(number - 1);
        if (d.how != 0) {
            return 0;
        }
        d.how = how;
        d.parts.clear();
        return 1;
    }

    long reduce(int number, long cents) {
        argument(isDebt(number) && cents >= 1);
        Debt d = debts.get(number - 1);
        if (d.how != 0 || covered(d) <= cents) {
            return -1;
        }
        long keep = covered(d) - cents;
        for (long[] part : d.parts) {
            part[1] = Math.min(part[1], keep);
            keep -= part[1];
        }
        d.parts.removeIf(p -> p[1] == 0);
        return covered(d);
    }

    long claim(int number, long cents) {
        argument(isDebt(number) && cents >= 1);
        Debt d = debts.get(number - 1);
        if (d.how != 0 || covered(d) < cents) {
            return -1;
        }
        long left = cents;
        long lost = 0;
        for (long[] part : d.parts) {
            Security s = securities.get((int) part[0] - 1);
            long taken = Math.min(part[1], left);
            long after = Math.max(0, s.amount - taken);
            left -= taken;
            lost += s.amount - after;
            s.claimed += s.amount - after;
            s.amount = after;
        }
        d.how = 3;
        d.parts.clear();
        return lost;
    }

    boolean close(int number) {
        if (!isSecurity(number) || securities.get(number - 1).closed >= 0) {
            return false;
        }
        securities.get(number - 1).closed = today;
        return true;
    }

    boolean fails(int desk, boolean on) {
        if (!within(desk, 0, 3) || failing[desk] == on) {
            return false;
        }
        failing[desk] = on;
        return true;
    }

    boolean tick(int day) {
        if (!within(day, today, 100000)) {
            return false;
        }
        for (; today < day; today++) {
            for (Security s : securities) {
                s.atEnd.add(s.amount);
            }
        }
        return true;
    }

    long interest(int number) {
        argument(isSecurity(number));
        Security s = securities.get(number - 1);
        int days = (s.closed >= 0 ? s.closed : today) - s.begun;
        long sum = 0;
        long row = 0;
        for (int i = 0; i < days; i++) {
            // A day counts with the amount at the end of the one before it: a claim's own day with the old one.
            long amount = s.atEnd.get(i);
            if (i > 0 && amount != s.atEnd.get(i - 1)) {
                sum += row / 3650000;
                row = 0;
            }
            row += amount * s.rate;
        }
        return sum + row / 3650000;
    }

    long free(int holder) {
        if (!within(holder, 0, 7)) {
            return -1;
        }
        return Math.min(2000000000L, orders.get(holder).stream().mapToLong(this::mayCover).sum());
    }

    int list(int holder, int i) {
        return within(holder, 0, 7) && within(i, 0, orders.get(holder).size() - 1) ? orders.get(holder).get(i) : -1;
    }

    long look(int number, int what) {
        index(isSecurity(number) && within(what, 0, 8));
        Security s = securities.get(number - 1);
        return switch (what) {
            case 0 -> s.holder;
            case 1 -> s.amount;
            case 2 -> needed(number);
            case 3 -> Math.max(0, s.amount - needed(number));
            case 4 -> mayCover(number);
            case 5 -> uses(number);
            case 6 -> s.closed >= 0 ? 1 : 0;
            case 7 -> Math.max(0, needed(number) - s.amount);
            default -> s.claimed;
        };
    }

    long of(int number, int what) {
        index(isDebt(number) && within(what, 0, 12));
        Debt d = debts.get(number - 1);
        if (what >= 5) {
            int part = what >= 9 ? what - 9 : what - 5;
            index(part < d.parts.size());
            return d.parts.get(part)[what >= 9 ? 1 : 0];
        }
        return new long[] {d.holder, d.cents, covered(d), d.how, d.parts.size()}[what];
    }

    int count(int what) {
        if (within(what, 10, 13)) {
            return failures[what - 10];
        }
        int live = (int) debts.stream().filter(d -> d.how == 0).count();
        return within(what, 0, 3) ? new int[] {securities.size(), debts.size(), live, today}[what] : -1;
    }
}
