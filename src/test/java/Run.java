import java.util.ArrayList;
import java.util.List;

/** One object and the calls on it, each with the answer that is due. Behind its 512th call nothing is promised. */
final class Run {
    private static final int MOST_CALLS = 512;

    private final Due due;
    private final TaskBuild x = new TaskBuild();
    private int calls;

    Run(Due due) {
        this.due = due;
    }

    private Run is(String call, int got, int want) {
        count();
        due.is("call " + calls + ", " + call, got, want);
        return this;
    }

    private void count() {
        calls++;
        if (calls == MOST_CALLS + 1) {
            due.holds("a test makes more than " + MOST_CALLS + " calls", false);
        }
    }

    int calls() {
        return calls;
    }

    /** For a call whose answer is not told: it counts as one of the 512, too. */
    TaskBuild object() {
        count();
        return x;
    }

    Run runnable(int period, int core, int steps, int want) {
        return is("runnable(" + period + ", " + core + ", " + steps + ")", x.runnable(period, core, steps), want);
    }

    /** So many runnables more of one period and one core, each with 1 step. */
    Run runnables(int before, int more, int period, int core) {
        for (int n = before + 1; n <= before + more; n++) {
            runnable(period, core, 1, n);
        }
        return this;
    }

    Run needs(int a, int b, boolean delayed, int want) {
        return is("needs(" + a + ", " + b + ", " + delayed + ")", x.needs(a, b, delayed), want);
    }

    /** Needs that order and close no ring: each runnable comes behind the one told before it. */
    Run chain(int... runnables) {
        for (int i = 1; i < runnables.length; i++) {
            needs(runnables[i - 1], runnables[i], false, 1);
        }
        return this;
    }

    Run area(int runnable, int data, int want) {
        return is("area(" + runnable + ", " + data + ")", x.area(runnable, data), want);
    }

    Run build(int want) {
        return is("build()", x.build(), want);
    }

    Run task(int runnable, int want) {
        return is("task(" + runnable + ")", x.task(runnable), want);
    }

    /** The tasks of runnables 1, 2 and so on. */
    Run tasks(int... want) {
        for (int r = 1; r <= want.length; r++) {
            task(r, want[r - 1]);
        }
        return this;
    }

    Run order(int task, int i, int want) {
        return is("order(" + task + ", " + i + ")", x.order(task, i), want);
    }

    /** A task's whole order, and that it ends there. */
    Run wholeOrder(int task, int... want) {
        for (int i = 0; i < want.length; i++) {
            order(task, i, want[i]);
        }
        return order(task, want.length, 0);
    }

    Run rank(int task, int want) {
        return is("rank(" + task + ")", x.rank(task), want);
    }

    /** The ranks of tasks 1, 2 and so on, and that there are no more tasks. */
    Run wholeRanks(int... want) {
        for (int t = 1; t <= want.length; t++) {
            rank(t, want[t - 1]);
        }
        return rank(want.length + 1, -1);
    }

    Run buffer(int data, int want) {
        return is("buffer(" + data + ")", x.buffer(data), want);
    }

    Run table(int tick, int i, int want) {
        return is("table(" + tick + ", " + i + ")", x.table(tick, i), want);
    }

    /** All that start at a tick, and that there are no more. */
    Run wholeTick(int tick, int... want) {
        for (int i = 0; i < want.length; i++) {
            table(tick, i, want[i]);
        }
        return table(tick, want.length, 0);
    }

    Run ring(int i, int want) {
        return is("ring(" + i + ")", x.ring(i), want);
    }

    /** The whole ring, and that it ends there. */
    Run wholeRing(int... want) {
        for (int i = 0; i < want.length; i++) {
            ring(i, want[i]);
        }
        return ring(want.length, 0);
    }

    Run cross(int data, int want) {
        return is("cross(" + data + ")", x.cross(data), want);
    }

    Run budget(int task, long micros, int want) {
        return is("budget(" + task + ", " + micros + ")", x.budget(task, micros), want);
    }

    Run differ(int other, int want) {
        return is("differ(" + other + ")", x.differ(other), want);
    }

    /** Each call that needs a build is refused with -3; with runnable 1, task() is, too. */
    Run nothingIsBuilt() {
        return order(1, 0, -3).rank(1, -3).buffer(1, -3).table(0, 0, -3).cross(1, -3).budget(1, 0, -3).differ(1, -3);
    }

    /** Every answer that a call which changes nothing gives, but for the ring's: to hold beside another run's. */
    List<String> answers() {
        List<String> answers = new ArrayList<>();
        for (int r = 0; r <= 25; r++) {
            note(answers, "task " + r, x.task(r));
        }
        for (int t = 0; t <= 9; t++) {
            note(answers, "rank " + t, x.rank(t));
            note(answers, "budget " + t, x.budget(t, 5));
            int last = 1;
            for (int i = 0; last > 0; i++) {
                last = x.order(t, i);
                note(answers, "order " + t + ", " + i, last);
            }
        }
        for (int d = 0; d <= 6; d++) {
            note(answers, "buffer " + d, x.buffer(d));
            note(answers, "cross " + d, x.cross(d));
        }
        for (int i = 0; i < 6; i++) {
            note(answers, "table 0, " + i, x.table(0, i));
            note(answers, "table 10, " + i, x.table(10, i));
        }
        for (int other = 0; other <= 4; other++) {
            note(answers, "differ " + other, x.differ(other));
        }
        return answers;
    }

    List<String> ringAnswers() {
        List<String> answers = new ArrayList<>();
        for (int i = 0; i <= 5; i++) {
            note(answers, "ring " + i, x.ring(i));
        }
        return answers;
    }

    private void note(List<String> answers, String call, int answer) {
        count();
        answers.add(call + ": " + answer);
    }
}
