/** Each promise of the document: ordinary inputs, the edges that it names, and wrong inputs. */
public final class PromisesTest {
    private static final int LEAST = Integer.MIN_VALUE;
    private static final int MOST = Integer.MAX_VALUE;
    private static final Due due = new Due();

    private PromisesTest() {
    }

    public static void main(String[] args) {
        newObject();
        runnable();
        needs();
        area();
        build();
        buildAtTheEdge();
        task();
        order();
        rank();
        buffer();
        table();
        ring();
        ringChoices();
        ringAtFullLength();
        cross();
        budget();
        differ();
        differKeepsForty();
        whatTakesABuildAway();
        whatLeavesABuild();
        due.end();
    }

    /** Runnables 1 .. n of one period on one core. */
    private static TaskBuild withRunnables(int n, int period, int core) {
        TaskBuild x = new TaskBuild();
        for (int i = 0; i < n; i++) {
            x.runnable(period, core, 1);
        }
        return x;
    }

    private static void dueOrder(TaskBuild x, int task, int... want) {
        for (int i = 0; i < want.length; i++) {
            due.is("order(" + task + ", " + i + ")", x.order(task, i), want[i]);
        }
        due.is("order(" + task + ", " + want.length + ")", x.order(task, want.length), 0);
    }

    private static void dueRing(TaskBuild x, int... want) {
        for (int i = 0; i < want.length; i++) {
            due.is("ring(" + i + ")", x.ring(i), want[i]);
        }
        due.is("ring(" + want.length + ")", x.ring(want.length), 0);
    }

    private static void dueTable(TaskBuild x, int tick, int... want) {
        for (int i = 0; i < want.length; i++) {
            due.is("table(" + tick + ", " + i + ")", x.table(tick, i), want[i]);
        }
        due.is("table(" + tick + ", " + want.length + ")", x.table(tick, want.length), 0);
    }

    private static void dueBuilt(TaskBuild x, boolean built) {
        due.is("rank(1)", x.rank(1), built ? 1 : -3);
    }

    private static void newObject() {
        due.part("1 a new object");
        TaskBuild x = new TaskBuild();
        due.is("task(1)", x.task(1), -1);
        due.is("needs(1, 1, true)", x.needs(1, 1, true), -1);
        due.is("area(1, 1)", x.area(1, 1), -1);
        due.is("ring(0)", x.ring(0), 0);
        due.is("order(1, 0)", x.order(1, 0), -3);
        due.is("rank(1)", x.rank(1), -3);
        due.is("buffer(1)", x.buffer(1), -3);
        due.is("table(0, 0)", x.table(0, 0), -3);
        due.is("cross(1)", x.cross(1), -3);
        due.is("budget(1, 0)", x.budget(1, 0), -3);
        due.is("differ(1)", x.differ(1), -3);
        due.is("build()", x.build(), 0);
        TaskBuild y = new TaskBuild();
        y.runnable(1, 1, 1);
        due.is("task(1) of the first object", x.task(1), -1);
    }

    private static void runnable() {
        due.part("2 runnable");
        TaskBuild x = new TaskBuild();
        due.is("runnable(-1, 1, 0)", x.runnable(-1, 1, 0), -2);
        due.is("runnable(1001, 1, 0)", x.runnable(1001, 1, 0), -2);
        due.is("runnable(0, 0, 0)", x.runnable(0, 0, 0), -2);
        due.is("runnable(0, 5, 0)", x.runnable(0, 5, 0), -2);
        due.is("runnable(0, 1, -1)", x.runnable(0, 1, -1), -2);
        due.is("runnable(0, 1, 100001)", x.runnable(0, 1, 100001), -2);
        due.is("runnable(LEAST, 1, 0)", x.runnable(LEAST, 1, 0), -2);
        due.is("runnable(0, MOST, 0)", x.runnable(0, MOST, 0), -2);
        due.is("runnable(0, 1, 0)", x.runnable(0, 1, 0), 1);
        due.is("runnable(1000, 4, 100000)", x.runnable(1000, 4, 100000), 2);
        for (int n = 3; n <= 24; n++) {
            due.is("runnable(10, 2, 5)", x.runnable(10, 2, 5), n);
        }
        due.is("runnable(10, 2, 5) when there are 24", x.runnable(10, 2, 5), -4);
        due.is("runnable(1001, 2, 5) when there are 24", x.runnable(1001, 2, 5), -2);
        due.is("build()", x.build(), 3);
        due.is("task(24)", x.task(24), 2);
        due.is("task(25)", x.task(25), -1);
    }

    private static void needs() {
        due.part("3 needs");
        TaskBuild x = withRunnables(3, 10, 1);
        due.is("needs(0, 1, false)", x.needs(0, 1, false), -1);
        due.is("needs(1, 4, false)", x.needs(1, 4, false), -1);
        due.is("needs(4, 4, true)", x.needs(4, 4, true), -1);
        due.is("needs(LEAST, 1, true)", x.needs(LEAST, 1, true), -1);
        due.is("needs(1, MOST, true)", x.needs(1, MOST, true), -1);
        due.is("needs(3, 1, true)", x.needs(3, 1, true), 1);
        due.is("needs(1, 3, false) beside a delayed one back", x.needs(1, 3, false), 1);
        due.is("needs(1, 3, false) again", x.needs(1, 3, false), 1);
        due.is("needs(3, 1, true) again", x.needs(3, 1, true), 1);
        due.is("needs(3, 1, false)", x.needs(3, 1, false), 0);
        due.is("needs(2, 2, false)", x.needs(2, 2, false), 0);
        due.is("needs(2, 2, true)", x.needs(2, 2, true), 1);
        due.is("needs(3, 2, false)", x.needs(3, 2, false), 1);
        due.is("needs(2, 1, false) over 3", x.needs(2, 1, false), 0);
        due.is("build()", x.build(), 1);
        dueOrder(x, 1, 1, 3, 2);

        TaskBuild y = withRunnables(2, 10, 1);
        due.is("needs(2, 1, true)", y.needs(2, 1, true), 1);
        y.build();
        dueOrder(y, 1, 1, 2);
        due.is("needs(2, 1, false) behind the delayed one", y.needs(2, 1, false), 1);
        y.build();
        dueOrder(y, 1, 2, 1);
    }

    private static void area() {
        due.part("4 area");
        TaskBuild x = withRunnables(2, 10, 1);
        due.is("area(0, 1)", x.area(0, 1), -1);
        due.is("area(3, 1)", x.area(3, 1), -1);
        due.is("area(3, 0): the unknown runnable first", x.area(3, 0), -1);
        due.is("area(LEAST, LEAST)", x.area(LEAST, LEAST), -1);
        due.is("area(1, 0)", x.area(1, 0), -2);
        due.is("area(1, 21)", x.area(1, 21), -2);
        due.is("area(1, -21)", x.area(1, -21), -2);
        due.is("area(1, LEAST)", x.area(1, LEAST), -2);
        due.is("area(1, MOST)", x.area(1, MOST), -2);
        due.is("area(1, 20)", x.area(1, 20), 1);
        due.is("area(1, 20) again", x.area(1, 20), 1);
        due.is("area(1, -20): read and written", x.area(1, -20), 1);
        due.is("area(1, -1)", x.area(1, -1), 2);
        due.is("area(1, 1)", x.area(1, 1), 2);
        due.is("area(2, 1): another's data do not count", x.area(2, 1), 1);
        for (int d = 2; d <= 20; d++) {
            due.is("area(2, " + -d + ")", x.area(2, -d), d);
        }
        TaskBuild full = withRunnables(24, 10, 1);
        due.is("area(24, 7)", full.area(24, 7), 1);
        due.is("area(24, -8)", full.area(24, -8), 2);
    }

    private static void build() {
        due.part("5 build");
        TaskBuild x = new TaskBuild();
        due.is("build() of nothing", x.build(), 0);
        x.runnable(20, 2, 1);
        x.runnable(10, 2, 1);
        x.runnable(0, 2, 1);
        x.runnable(20, 2, 1);
        x.runnable(0, 2, 1);
        x.runnable(1000, 1, 1);
        x.runnable(10, 4, 1);
        due.is("build()", x.build(), 6);
        int[] tasks = {5, 4, 2, 5, 3, 1, 6};
        for (int r = 1; r <= tasks.length; r++) {
            due.is("task(" + r + ")", x.task(r), tasks[r - 1]);
        }
        due.is("build() again", x.build(), 6);
    }

    private static void buildAtTheEdge() {
        due.part("5 build, 12 tasks of a core");
        TaskBuild x = new TaskBuild();
        for (int i = 1; i <= 12; i++) {
            x.runnable(i <= 6 ? 0 : i, 1, 1);
        }
        x.runnable(7, 1, 1);
        for (int i = 1; i <= 6; i++) {
            x.runnable(0, 4, 1);
        }
        due.is("build() with 12 of a core, 18 in all", x.build(), 18);
        due.is("task(13)", x.task(13), 7);
        x.runnable(0, 1, 1);
        due.is("build() with 13 of a core", x.build(), -4);
        due.is("rank(1)", x.rank(1), -3);
        due.is("table(0, 0)", x.table(0, 0), -3);
        due.is("differ(1)", x.differ(1), -3);

        TaskBuild full = new TaskBuild();
        for (int i = 0; i < 24; i++) {
            full.runnable(i % 2, 1 + i / 6, 1);
        }
        due.is("build() of 24", full.build(), 16);
        TaskBuild events = new TaskBuild();
        for (int i = 0; i < 24; i++) {
            events.runnable(0, 1 + i / 12, 1);
        }
        due.is("build() of 24 tasks", events.build(), 24);
        due.is("task(24)", events.task(24), 24);
        due.is("rank(24)", events.rank(24), 1);
        due.is("rank(13)", events.rank(13), 12);
        dueOrder(events, 24, 24);

        TaskBuild shared = new TaskBuild();
        shared.runnable(1, 1, 1);
        for (int i = 1; i <= 12; i++) {
            shared.runnable(i, 1, 1);
        }
        due.is("build() with 12 of a core, 1 and 2 in one", shared.build(), 12);
        dueOrder(shared, 1, 1, 2);

        TaskBuild lastCore = new TaskBuild();
        for (int i = 1; i <= 13; i++) {
            lastCore.runnable(i, 4, 1);
        }
        due.is("build() with 13 of core 4", lastCore.build(), -4);
    }

    private static void task() {
        due.part("6 task");
        TaskBuild x = new TaskBuild();
        x.runnable(5, 2, 1);
        x.runnable(0, 1, 1);
        due.is("task(1) before a build", x.task(1), -3);
        due.is("task(3) before a build: the unknown one first", x.task(3), -1);
        x.build();
        due.is("task(1)", x.task(1), 2);
        due.is("task(2)", x.task(2), 1);
        due.is("task(0)", x.task(0), -1);
        due.is("task(3)", x.task(3), -1);
        due.is("task(LEAST)", x.task(LEAST), -1);
        due.is("task(MOST)", x.task(MOST), -1);
    }

    private static void order() {
        due.part("7 order");
        TaskBuild x = withRunnables(5, 10, 1);
        due.is("order(1, 0) before a build", x.order(1, 0), -3);
        due.is("order(9, 0) before a build", x.order(9, 0), -3);
        x.build();
        dueOrder(x, 1, 1, 2, 3, 4, 5);
        x.needs(4, 2, false);
        x.needs(5, 1, false);
        x.build();
        dueOrder(x, 1, 3, 4, 2, 5, 1);
        due.is("order(1, -1)", x.order(1, -1), 0);
        due.is("order(1, LEAST)", x.order(1, LEAST), 0);
        due.is("order(1, MOST)", x.order(1, MOST), 0);
        due.is("order(0, 0)", x.order(0, 0), -1);
        due.is("order(2, 0)", x.order(2, 0), -1);
        due.is("order(LEAST, 0)", x.order(LEAST, 0), -1);
        due.is("order(MOST, -1)", x.order(MOST, -1), -1);

        TaskBuild several = withRunnables(24, 10, 1);
        for (int r = 24; r > 1; r--) {
            several.needs(r, 1, false);
        }
        several.needs(23, 24, false);
        several.needs(24, 2, false);
        several.build();
        dueOrder(several, 1, 3, 4, 5, 6, 7, 8, 9, 10, 11, 12, 13, 14, 15, 16, 17, 18, 19, 20, 21, 22, 23, 24, 2, 1);

        TaskBuild over = new TaskBuild();
        over.runnable(10, 1, 1);
        over.runnable(10, 1, 1);
        over.runnable(20, 1, 1);
        over.runnable(0, 2, 1);
        over.needs(4, 1, false);
        over.needs(2, 3, false);
        over.needs(3, 4, false);
        over.build();
        dueOrder(over, 1, 2, 1);
        dueOrder(over, 2, 3);
        dueOrder(over, 3, 4);
    }

    private static void rank() {
        due.part("8 rank");
        TaskBuild x = new TaskBuild();
        x.runnable(30, 1, 1);
        x.runnable(20, 1, 1);
        x.runnable(0, 1, 1);
        x.runnable(30, 3, 1);
        due.is("rank(1) before a build", x.rank(1), -3);
        due.is("rank(0) before a build", x.rank(0), -3);
        x.build();
        due.is("rank(1)", x.rank(1), 3);
        due.is("rank(2)", x.rank(2), 2);
        due.is("rank(3)", x.rank(3), 1);
        due.is("rank(4)", x.rank(4), 1);
        due.is("rank(0)", x.rank(0), -1);
        due.is("rank(5)", x.rank(5), -1);
        due.is("rank(LEAST)", x.rank(LEAST), -1);
        due.is("rank(MOST)", x.rank(MOST), -1);
    }

    private static void buffer() {
        due.part("9 buffer");
        TaskBuild x = new TaskBuild();
        x.runnable(10, 1, 1);
        x.runnable(20, 1, 1);
        x.runnable(10, 2, 1);
        x.runnable(20, 1, 1);
        x.area(2, 1);
        x.area(1, -1);
        x.area(1, 2);
        x.area(2, -2);
        x.area(2, 3);
        x.area(3, -3);
        x.area(2, 4);
        x.area(4, -4);
        x.area(2, 5);
        x.area(2, -5);
        x.area(4, 20);
        x.area(1, -20);
        due.is("buffer(1) before a build", x.buffer(1), -3);
        due.is("buffer(21) before a build", x.buffer(21), -2);
        x.build();
        due.is("buffer(1): the writer has the greater rank", x.buffer(1), 1);
        due.is("buffer(2): the reader has the greater rank", x.buffer(2), 0);
        due.is("buffer(3): the writer is on another core", x.buffer(3), 0);
        due.is("buffer(4): one task reads and writes", x.buffer(4), 0);
        due.is("buffer(5): one runnable reads and writes", x.buffer(5), 0);
        due.is("buffer(6): no one uses it", x.buffer(6), 0);
        due.is("buffer(20)", x.buffer(20), 1);
        due.is("buffer(0)", x.buffer(0), -2);
        due.is("buffer(-1)", x.buffer(-1), -2);
        due.is("buffer(21)", x.buffer(21), -2);
        due.is("buffer(LEAST)", x.buffer(LEAST), -2);
        due.is("buffer(MOST)", x.buffer(MOST), -2);

        TaskBuild ends = new TaskBuild();
        ends.runnable(20, 1, 1);
        ends.runnable(0, 1, 1);
        ends.area(1, 1);
        ends.area(2, -1);
        ends.area(1, -2);
        ends.area(2, 2);
        ends.build();
        due.is("buffer(1): the first reads, the last writes", ends.buffer(1), 1);
        due.is("buffer(2): the other way round", ends.buffer(2), 0);
    }

    private static void table() {
        due.part("10 table");
        TaskBuild x = new TaskBuild();
        x.runnable(6, 2, 1);
        x.runnable(4, 2, 1);
        x.runnable(0, 2, 1);
        x.runnable(6, 1, 1);
        x.runnable(1, 3, 1);
        x.runnable(1000, 4, 1);
        due.is("table(0, 0) before a build", x.table(0, 0), -3);
        due.is("table(-1, 0) before a build", x.table(-1, 0), -2);
        x.build();
        dueTable(x, 0, 1, 3, 4, 5, 6);
        dueTable(x, 1, 5);
        dueTable(x, 4, 3, 5);
        dueTable(x, 6, 1, 4, 5);
        dueTable(x, 12, 1, 3, 4, 5);
        dueTable(x, 3000, 1, 3, 4, 5, 6);
        dueTable(x, MOST, 5);
        due.is("table(0, -1)", x.table(0, -1), 0);
        due.is("table(0, LEAST)", x.table(0, LEAST), 0);
        due.is("table(0, MOST)", x.table(0, MOST), 0);
        due.is("table(-1, 0)", x.table(-1, 0), -2);
        due.is("table(LEAST, 0)", x.table(LEAST, 0), -2);
    }

    private static void ring() {
        due.part("11 ring");
        TaskBuild x = withRunnables(4, 10, 1);
        due.is("ring(0) before one is told", x.ring(0), 0);
        due.is("ring(-1)", x.ring(-1), 0);
        x.needs(1, 2, false);
        x.needs(2, 3, false);
        x.needs(3, 1, false);
        dueRing(x, 1, 2, 3);
        x.needs(3, 1, true);
        x.needs(3, 4, false);
        x.needs(9, 1, false);
        x.runnable(5, 1, 1);
        x.build();
        dueRing(x, 1, 2, 3);
        x.needs(2, 2, false);
        dueRing(x, 2);
        due.is("ring(-1)", x.ring(-1), 0);
        due.is("ring(LEAST)", x.ring(LEAST), 0);
        due.is("ring(MOST)", x.ring(MOST), 0);
        x.needs(2, 1, false);
        dueRing(x, 1, 2);
        due.is("the refused need is not held: needs(4, 5, false)", x.needs(4, 5, false), 1);
        due.is("needs(5, 1, false)", x.needs(5, 1, false), 0);
        dueRing(x, 1, 2, 3, 4, 5);
    }

    private static void ringChoices() {
        due.part("11 ring, of several ways");
        TaskBuild fewest = withRunnables(6, 10, 1);
        fewest.needs(1, 2, false);
        fewest.needs(2, 3, false);
        fewest.needs(3, 6, false);
        fewest.needs(1, 5, false);
        fewest.needs(5, 6, false);
        fewest.needs(6, 1, false);
        dueRing(fewest, 1, 5, 6);

        // The least way from the end on (by 3) is not the least one from the start on (by 2).
        TaskBuild least = withRunnables(8, 10, 1);
        least.needs(1, 4, false);
        least.needs(4, 3, false);
        least.needs(3, 8, false);
        least.needs(1, 2, false);
        least.needs(2, 7, false);
        least.needs(7, 8, false);
        least.needs(2, 6, false);
        least.needs(6, 8, false);
        least.needs(8, 1, false);
        dueRing(least, 1, 2, 6, 8);

        // The least second one leads on, but by more runnables.
        TaskBuild astray = withRunnables(6, 10, 1);
        astray.needs(1, 2, false);
        astray.needs(2, 3, false);
        astray.needs(3, 6, false);
        astray.needs(1, 4, false);
        astray.needs(4, 6, false);
        astray.needs(6, 1, false);
        dueRing(astray, 1, 4, 6);

        // Several come before one, and the ring's ends are the greatest numbers.
        TaskBuild several = withRunnables(24, 10, 1);
        several.needs(24, 3, false);
        several.needs(24, 2, false);
        several.needs(2, 23, false);
        several.needs(3, 23, false);
        several.needs(1, 23, false);
        several.needs(23, 24, false);
        dueRing(several, 24, 2, 23);
        several.needs(3, 24, false);
        dueRing(several, 24, 3);
        several.needs(23, 2, false);
        dueRing(several, 2, 23);

        TaskBuild delayed = withRunnables(3, 10, 1);
        delayed.needs(1, 3, true);
        delayed.needs(1, 2, false);
        delayed.needs(2, 3, false);
        delayed.needs(3, 1, false);
        dueRing(delayed, 1, 2, 3);
    }

    private static void ringAtFullLength() {
        due.part("11 ring of 24");
        TaskBuild x = withRunnables(24, 10, 1);
        int[] want = new int[24];
        for (int r = 24; r > 1; r--) {
            x.needs(r, r - 1, false);
        }
        for (int i = 0; i < 24; i++) {
            want[i] = 24 - i;
        }
        due.is("needs(1, 24, false)", x.needs(1, 24, false), 0);
        dueRing(x, want);
        due.is("build()", x.build(), 1);
        dueOrder(x, 1, want);
    }

    private static void cross() {
        due.part("12 cross");
        TaskBuild x = new TaskBuild();
        for (int core = 1; core <= 4; core++) {
            x.runnable(10, core, 1);
            x.runnable(0, core, 1);
        }
        for (int r = 1; r <= 8; r++) {
            x.area(r, 1);
        }
        x.area(1, -1);
        x.area(1, 2);
        x.area(2, -2);
        x.area(7, -3);
        x.area(8, -3);
        x.area(1, 4);
        x.area(1, -4);
        x.area(8, 4);
        x.area(8, -4);
        x.area(1, 5);
        x.area(3, -20);
        x.area(8, 20);
        due.is("cross(1) before a build", x.cross(1), -3);
        due.is("cross(0) before a build", x.cross(0), -2);
        x.build();
        due.is("cross(1): read on all, written on one", x.cross(1), 3);
        due.is("cross(2): one core", x.cross(2), 0);
        due.is("cross(3): only written", x.cross(3), 0);
        due.is("cross(4): two cores, both ways", x.cross(4), 2);
        due.is("cross(5): only read", x.cross(5), 0);
        due.is("cross(6): no one uses it", x.cross(6), 0);
        due.is("cross(20)", x.cross(20), 1);
        due.is("cross(0)", x.cross(0), -2);
        due.is("cross(-1)", x.cross(-1), -2);
        due.is("cross(21)", x.cross(21), -2);
        due.is("cross(LEAST)", x.cross(LEAST), -2);
        due.is("cross(MOST)", x.cross(MOST), -2);
        x.area(3, -1);
        x.build();
        due.is("cross(1): written on two", x.cross(1), 4);
    }

    private static void budget() {
        due.part("13 budget");
        TaskBuild x = new TaskBuild();
        x.runnable(10, 1, 100);
        x.runnable(10, 1, 23);
        x.runnable(20, 1, 0);
        due.is("budget(1, 1) before a build", x.budget(1, 1), -3);
        due.is("budget(9, -1) before a build", x.budget(9, -1), -3);
        x.build();
        due.is("budget(1, 123)", x.budget(1, 123), 1);
        due.is("budget(1, 122)", x.budget(1, 122), 0);
        due.is("budget(1, 0)", x.budget(1, 0), 0);
        due.is("budget(2, 0)", x.budget(2, 0), 1);
        due.is("budget(1, Long.MAX_VALUE)", x.budget(1, Long.MAX_VALUE), 1);
        due.is("budget(1, 2^32)", x.budget(1, 1L << 32), 1);
        due.is("budget(1, -1)", x.budget(1, -1), -2);
        due.is("budget(1, Long.MIN_VALUE)", x.budget(1, Long.MIN_VALUE), -2);
        due.is("budget(3, 1)", x.budget(3, 1), -1);
        due.is("budget(0, 1)", x.budget(0, 1), -1);
        due.is("budget(3, -1): the unknown task first", x.budget(3, -1), -1);
        due.is("budget(LEAST, 1)", x.budget(LEAST, 1), -1);
        due.is("budget(MOST, 1)", x.budget(MOST, 1), -1);

        TaskBuild full = new TaskBuild();
        for (int i = 0; i < 24; i++) {
            full.runnable(1, 1, 100000);
        }
        full.build();
        due.is("budget(1, 2400000)", full.budget(1, 2400000), 1);
        due.is("budget(1, 2399999)", full.budget(1, 2399999), 0);
    }

    private static void differ() {
        due.part("14 differ");
        TaskBuild x = new TaskBuild();
        due.is("differ(0) before a build", x.differ(0), -3);
        x.runnable(10, 2, 1);
        x.runnable(10, 2, 1);
        x.runnable(0, 2, 1);
        x.build();
        due.is("differ(1): itself", x.differ(1), 0);
        due.is("differ(0)", x.differ(0), -1);
        due.is("differ(2)", x.differ(2), -1);
        due.is("differ(LEAST)", x.differ(LEAST), -1);
        due.is("differ(MOST)", x.differ(MOST), -1);
        x.runnable(5, 1, 1);
        due.is("differ(1) when what was built is gone", x.differ(1), -3);
        due.is("differ(9) when what was built is gone", x.differ(9), -3);
        x.build();
        due.is("differ(1): a task more, the others with new numbers", x.differ(1), 1);
        x.needs(2, 1, false);
        x.build();
        due.is("differ(1): another order, too", x.differ(1), 2);
        due.is("differ(2)", x.differ(2), 1);
        due.is("differ(3)", x.differ(3), 0);
        x.runnable(10, 2, 1);
        x.build();
        due.is("differ(3): a longer order", x.differ(3), 1);
        due.is("differ(2)", x.differ(2), 1);
        x.area(1, 1);
        x.needs(1, 2, true);
        x.build();
        due.is("differ(4): nothing that counts has changed", x.differ(4), 0);

        TaskBuild refused = withRunnables(1, 1, 1);
        refused.build();
        for (int i = 2; i <= 13; i++) {
            refused.runnable(i, 1, 1);
        }
        due.is("build()", refused.build(), -4);
        due.is("differ(1) behind a refused build", refused.differ(1), -3);
    }

    private static void differKeepsForty() {
        due.part("14 differ, the first 40 kept");
        TaskBuild x = withRunnables(3, 10, 1);
        for (int i = 1; i <= 39; i++) {
            x.build();
        }
        due.is("differ(40)", x.differ(40), -1);
        x.needs(3, 1, false);
        x.build();
        due.is("differ(40): itself", x.differ(40), 0);
        due.is("differ(39)", x.differ(39), 1);
        x.needs(3, 2, false);
        x.runnable(0, 1, 1);
        x.build();
        due.is("differ(41): itself, not kept", x.differ(41), -1);
        due.is("differ(40)", x.differ(40), 2);
        due.is("differ(1)", x.differ(1), 2);
        due.is("order(2, 0)", x.order(2, 0), 3);
        x.runnable(20, 4, 1);
        x.build();
        due.is("differ(40) of the 42nd", x.differ(40), 3);
        due.is("differ(41)", x.differ(41), -1);
        due.is("task(5)", x.task(5), 3);
    }

    private static void whatTakesABuildAway() {
        due.part("refusals: what takes a build away");
        TaskBuild x = withRunnables(2, 10, 1);
        x.build();
        dueBuilt(x, true);
        x.needs(1, 2, false);
        dueBuilt(x, false);
        x.build();
        x.needs(1, 2, false);
        dueBuilt(x, false);
        x.build();
        x.needs(1, 1, true);
        dueBuilt(x, false);
        x.build();
        x.area(1, 1);
        dueBuilt(x, false);
        x.build();
        x.area(1, 1);
        dueBuilt(x, false);
        x.build();
        x.area(1, -1);
        dueBuilt(x, false);
        x.build();
        x.runnable(10, 1, 1);
        dueBuilt(x, false);
        due.is("task(1)", x.task(1), -3);
        due.is("order(1, 0)", x.order(1, 0), -3);
        due.is("buffer(1)", x.buffer(1), -3);
        due.is("table(0, 0)", x.table(0, 0), -3);
        due.is("cross(1)", x.cross(1), -3);
        due.is("budget(1, 1)", x.budget(1, 1), -3);
        due.is("differ(1)", x.differ(1), -3);
        due.is("ring(0)", x.ring(0), 0);
    }

    private static void whatLeavesABuild() {
        due.part("refusals: what leaves a build");
        TaskBuild x = withRunnables(24, 10, 1);
        x.needs(2, 1, false);
        x.build();
        x.runnable(10, 1, 1);
        dueBuilt(x, true);
        x.runnable(10, 9, 1);
        dueBuilt(x, true);
        x.needs(1, 25, false);
        dueBuilt(x, true);
        x.needs(1, 2, false);
        dueBuilt(x, true);
        dueRing(x, 2, 1);
        x.area(25, 1);
        dueBuilt(x, true);
        x.area(1, 0);
        dueBuilt(x, true);
        x.table(-1, 0);
        x.budget(1, -1);
        x.differ(2);
        dueBuilt(x, true);
        due.is("differ(1)", x.differ(1), 0);
    }
}
