import java.util.Random;
import java.util.function.Supplier;

/** Runs of 512 calls, drawn from fixed seeds: the book answers each as the model does. */
public final class ModelTest {
    private static final int RUNS = 3000;
    private static final int CALLS = 512;
    private static final int[] WILD = {-1, 0, 1, 4, 8, 9, 13, 14, 20, 21, 60, 61, 101, 1001, 100001,
        Integer.MIN_VALUE, Integer.MIN_VALUE + 9, Integer.MAX_VALUE};
    private static final long[] WILD_CENTS = {-1, 0, 1, 1000000000L, 1000000001L, (1L << 32) + 1,
        Long.MIN_VALUE, Long.MAX_VALUE};

    private final Random random;
    private final GuaranteeBook book = new GuaranteeBook();
    private final Model model = new Model();
    private final long most;
    private final int holders;
    private final int longestStep;
    private String call = "";

    private ModelTest(int seed) {
        random = new Random(seed);
        most = new long[] {12, 300, 40000000, 1000000000L}[random.nextInt(4)];
        holders = 1 + random.nextInt(8);
        longestStep = random.nextInt(20) == 0 ? 2000 : 12;
    }

    public static void main(String[] args) {
        for (int seed = 1; seed <= RUNS; seed++) {
            new ModelTest(seed).run(seed);
        }
        Check.report();
    }

    private void run(int seed) {
        for (int i = 0; i < CALLS; i++) {
            Supplier<Object[]> both = next();
            Object[] answers = both.get();
            if (!answers[0].equals(answers[1])) {
                // What comes behind the first wrong answer of a run tells nothing more.
                Check.due("seed " + seed + ", call " + i + ": " + call, answers[1], answers[0]);
                return;
            }
        }
        Check.due("seed " + seed, true, true);
    }

    private Supplier<Object[]> both(String text, Supplier<Object> ofBook, Supplier<Object> ofModel) {
        call = text;
        return () -> new Object[] {Answer.of(ofBook), Answer.of(ofModel)};
    }

    private int pick(int least, int past) {
        return random.nextInt(60) == 0 ? WILD[random.nextInt(WILD.length)] : least + random.nextInt(past - least);
    }

    private long cents(long mostHere) {
        if (random.nextInt(60) == 0) {
            return WILD_CENTS[random.nextInt(WILD_CENTS.length)];
        }
        return 1 + Math.floorMod(random.nextLong(), Math.max(1, mostHere));
    }

    private int guaranteeNumber() {
        return pick(1, model.count(0) + 2);
    }

    private int reservationNumber() {
        // The newest are live more often, so that what is done to them has an effect.
        int all = model.count(1);
        return random.nextBoolean() ? pick(Math.max(1, all - 6), all + 2) : pick(1, all + 2);
    }

    private long centsOf(int reservation) {
        boolean known = reservation >= 1 && reservation <= model.count(1);
        return cents(known ? model.of(reservation, 2) + 2 : most);
    }

    private Supplier<Object[]> next() {
        int kind = random.nextInt(40);
        if (kind < 3) {
            return guarantee();
        }
        if (kind < 9) {
            return reserve();
        }
        if (kind < 16) {
            return changeReservation(kind);
        }
        if (kind < 23) {
            return changeOther(kind);
        }
        return ask(kind);
    }

    private Supplier<Object[]> guarantee() {
        int holder = pick(0, holders);
        long amount = cents(most);
        int down = random.nextBoolean() ? pick(1, 5) : pick(1, 101);
        int up = random.nextInt(4) == 0 ? down : pick(0, Math.max(1, Math.min(101, down) + 1));
        boolean single = random.nextInt(4) == 0;
        int rate = random.nextInt(3) == 0 ? 0 : pick(0, 1001);
        return both("guarantee " + holder + " " + amount + " " + up + "/" + down + " " + single + " " + rate,
                () -> book.guarantee(holder, amount, up, down, single, rate),
                () -> model.guarantee(holder, amount, up, down, single, rate));
    }

    private Supplier<Object[]> reserve() {
        int desk = pick(0, 4);
        int holder = pick(0, holders);
        long together = Math.max(1, model.free(holder));
        long nearTheMost = together + random.nextInt(3) - 1;
        long cents = random.nextInt(4) == 0 ? nearTheMost : cents(together / (1 + random.nextInt(5)));
        return both("reserve " + desk + " " + holder + " " + cents,
                () -> book.reserve(desk, holder, cents), () -> model.reserve(desk, holder, cents));
    }

    private Supplier<Object[]> changeReservation(int kind) {
        int number = reservationNumber();
        long cents = centsOf(number);
        int how = pick(1, 3);
        if (kind < 11) {
            return both("end " + number + " " + how, () -> book.end(number, how), () -> model.end(number, how));
        }
        if (kind < 14) {
            return both("reduce " + number + " " + cents,
                    () -> book.reduce(number, cents), () -> model.reduce(number, cents));
        }
        return both("claim " + number + " " + cents,
                () -> book.claim(number, cents), () -> model.claim(number, cents));
    }

    private Supplier<Object[]> changeOther(int kind) {
        int number = guaranteeNumber();
        if (kind < 18) {
            return both("first " + number, () -> book.first(number), () -> model.first(number));
        }
        if (kind == 18) {
            // Seldom, or all would be closed soon.
            int which = random.nextInt(6) == 0 ? number : 0;
            return both("close " + which, () -> book.close(which), () -> model.close(which));
        }
        if (kind == 19) {
            int desk = pick(0, 4);
            boolean on = random.nextBoolean();
            return both("fails " + desk + " " + on, () -> book.fails(desk, on), () -> model.fails(desk, on));
        }
        int day = model.count(3) + random.nextInt(longestStep) - 1;
        return both("tick " + day, () -> book.tick(day), () -> model.tick(day));
    }

    private Supplier<Object[]> ask(int kind) {
        int guarantee = guaranteeNumber();
        int reservation = reservationNumber();
        int holder = pick(0, holders);
        int what = pick(0, 14);
        if (kind < 26) {
            return both("interest " + guarantee, () -> book.interest(guarantee), () -> model.interest(guarantee));
        }
        if (kind < 28) {
            return both("free " + holder, () -> book.free(holder), () -> model.free(holder));
        }
        if (kind < 30) {
            return both("list " + holder + " " + what, () -> book.list(holder, what), () -> model.list(holder, what));
        }
        if (kind < 34) {
            int told = pick(0, 9);
            return both("look " + guarantee + " " + told,
                    () -> book.look(guarantee, told), () -> model.look(guarantee, told));
        }
        if (kind < 38) {
            return both("of " + reservation + " " + what,
                    () -> book.of(reservation, what), () -> model.of(reservation, what));
        }
        return both("count " + what, () -> book.count(what), () -> model.count(what));
    }
}
