import java.util.Random;

/** Runs of up to 512 calls on the program and on the slow model, side by side. The seeds are fixed. */
public final class ModelTest {
    private static final int RUNS = 600;
    private static final int MOST_CALLS = 512;
    private static final int RING_PLACES = 6;
    /** A need, and the ring that it may tell: no step makes more calls. */
    private static final int MOST_OF_A_STEP = 1 + RING_PLACES;
    private static final int[] STRANGE = {Integer.MIN_VALUE, Integer.MIN_VALUE + 1, -21, -20, -1, 0, 20, 21, 24, 25,
        26, 40, 41, 1001, Integer.MAX_VALUE};
    private static final int[] PERIODS = {0, 1, 2, 5, 10, 20, 1000};

    private static final Due due = new Due();

    private final Random random;
    private final TaskBuild x = new TaskBuild();
    private final Model model = new Model();
    /** Runs differ in how much they have to run, so that small and full objects are seen. */
    private final int wanted;
    private final int periods;
    private int calls;

    private ModelTest(long seed) {
        random = new Random(seed);
        wanted = 1 + random.nextInt(24);
        periods = 1 + random.nextInt(PERIODS.length);
        due.part("seed " + seed);
    }

    public static void main(String[] args) {
        for (long seed = 1; seed <= RUNS; seed++) {
            ModelTest test = new ModelTest(seed);
            while (test.calls + MOST_OF_A_STEP <= MOST_CALLS) {
                test.step();
            }
            due.holds(test.calls + " calls are more than " + MOST_CALLS, test.calls <= MOST_CALLS);
        }
        due.end();
    }

    private int some(int bound) {
        return random.nextInt(30) == 0 ? STRANGE[random.nextInt(STRANGE.length)] : 1 + random.nextInt(bound);
    }

    private void is(String call, int got, int want) {
        calls++;
        due.is("call " + calls + ", " + call, got, want);
    }

    private void step() {
        if (calls < wanted) {
            addRunnable();
            return;
        }
        int kind = random.nextInt(100);
        if (kind < 12) {
            change();
        } else if (kind < 26) {
            is("build()", x.build(), model.build());
        } else {
            ask();
        }
    }

    private void addRunnable() {
        int period = random.nextInt(20) == 0 ? some(1000) : PERIODS[random.nextInt(periods)];
        int core = some(4);
        int steps = random.nextInt(20) == 0 ? some(100000) : random.nextInt(100);
        is("runnable(" + period + ", " + core + ", " + steps + ")",
            x.runnable(period, core, steps), model.runnable(period, core, steps));
    }

    private void change() {
        int kind = random.nextInt(12);
        if (kind == 0) {
            addRunnable();
        } else if (kind < 6) {
            int runnable = some(wanted);
            int data = random.nextBoolean() ? some(4) : -some(4);
            is("area(" + runnable + ", " + data + ")", x.area(runnable, data), model.area(runnable, data));
        } else {
            int a = some(wanted);
            int b = some(wanted);
            boolean delayed = random.nextInt(5) == 0;
            is("needs(" + a + ", " + b + ", " + delayed + ")", x.needs(a, b, delayed), model.needs(a, b, delayed));
            for (int i = 0; i < RING_PLACES; i++) {
                is("ring(" + i + ")", x.ring(i), model.ring(i));
            }
        }
    }

    private void ask() {
        int n = some(24);
        int i = random.nextInt(10) == 0 ? some(24) : random.nextInt(4);
        switch (random.nextInt(9)) {
            case 0 -> is("task(" + n + ")", x.task(n), model.task(n));
            case 1 -> is("order(" + n + ", " + i + ")", x.order(n, i), model.order(n, i));
            case 2 -> is("rank(" + n + ")", x.rank(n), model.rank(n));
            case 3 -> askDatum(some(5));
            case 4 -> askTable(i);
            case 5 -> is("ring(" + i + ")", x.ring(i), model.ring(i));
            case 6 -> askDatum(some(20));
            case 7 -> askBudget(n);
            default -> {
                int other = some(45);
                is("differ(" + other + ")", x.differ(other), model.differ(other));
            }
        }
    }

    private void askDatum(int data) {
        is("buffer(" + data + ")", x.buffer(data), model.buffer(data));
        is("cross(" + data + ")", x.cross(data), model.cross(data));
    }

    private void askTable(int i) {
        int tick = random.nextBoolean() ? some(30) : 10 * random.nextInt(1000);
        is("table(" + tick + ", " + i + ")", x.table(tick, i), model.table(tick, i));
    }

    private void askBudget(int task) {
        long micros = random.nextInt(20) == 0 ? random.nextLong() : random.nextInt(400);
        is("budget(" + task + ", " + micros + ")", x.budget(task, micros), model.budget(task, micros));
    }
}
