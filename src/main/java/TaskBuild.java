/**
 * Tasks built from what is to run: grouped by cores and periods, each in an order that keeps needs.
 * Answers below 0 are refusals; the document's promises say which one comes first in each call.
 */
public final class TaskBuild {
    private static final int UNKNOWN = -1;
    private static final int OUTSIDE = -2;
    private static final int NOT_BUILT = -3;
    private static final int NO_ROOM = -4;

    private static final int MOST_RUNNABLES = 24;
    private static final int MOST_PERIOD = 1000;
    private static final int MOST_STEPS = 100000;
    private static final int CORES = 4;
    private static final int DATA = 20;
    private static final int MOST_TASKS_OF_A_CORE = 12;
    private static final int KEPT_BUILDS = 40;

    private final Runnables all;
    private final Graph graph;
    private final Plan[] kept;
    private int keptCount;
    /** Builds behind the kept ones are never asked for again, so they share this one. */
    private final Plan unkept;
    /** What is built now; null while nothing is. */
    private Plan built;

    public TaskBuild() {
        all = new Runnables();
        graph = new Graph();
        kept = new Plan[KEPT_BUILDS];
        unkept = new Plan();
    }

    public int runnable(int period, int core, int steps) {
        if (!isWithin(period, 0, MOST_PERIOD) || !isWithin(core, 1, CORES) || !isWithin(steps, 0, MOST_STEPS)) {
            return OUTSIDE;
        }
        if (all.isFull()) {
            return NO_ROOM;
        }
        built = null;
        return all.add(period, core, steps);
    }

    public int needs(int a, int b, boolean delayed) {
        if (!all.has(a) || !all.has(b)) {
            return UNKNOWN;
        }
        // A delayed need orders nothing and no call tells of it, so it is not held.
        if (!delayed) {
            if (graph.wouldCloseRing(a, b)) {
                graph.tellRing(a, b);
                return 0;
            }
            graph.add(a, b);
        }
        built = null;
        return 1;
    }

    public int area(int runnable, int data) {
        if (!all.has(runnable)) {
            return UNKNOWN;
        }
        boolean writes = data < 0;
        // The least int has no positive partner: it stays below 0 and is refused as outside.
        int datum = writes ? -data : data;
        if (!isDatum(datum)) {
            return OUTSIDE;
        }
        built = null;
        if (writes) {
            all.addWrite(runnable, datum);
        } else {
            all.addRead(runnable, datum);
        }
        return all.dataUsedBy(runnable);
    }

    public int build() {
        built = null;
        for (int core = 1; core <= CORES; core++) {
            if (all.tasksOn(core) > MOST_TASKS_OF_A_CORE) {
                return NO_ROOM;
            }
        }
        Plan plan = nextPlan();
        plan.layOut(all, graph);
        built = plan;
        return plan.taskCount;
    }

    public int task(int runnable) {
        if (!all.has(runnable)) {
            return UNKNOWN;
        }
        if (built == null) {
            return NOT_BUILT;
        }
        return built.taskOf[runnable];
    }

    public int order(int task, int i) {
        if (built == null) {
            return NOT_BUILT;
        }
        if (!built.hasTask(task)) {
            return UNKNOWN;
        }
        return built.runnableAt(task, i);
    }

    public int rank(int task) {
        if (built == null) {
            return NOT_BUILT;
        }
        if (!built.hasTask(task)) {
            return UNKNOWN;
        }
        return built.rankOf[task];
    }

    public int buffer(int data) {
        if (!isDatum(data)) {
            return OUTSIDE;
        }
        if (built == null) {
            return NOT_BUILT;
        }
        return built.isCopied(all, data) ? 1 : 0;
    }

    public int table(int tick, int i) {
        if (tick < 0) {
            return OUTSIDE;
        }
        if (built == null) {
            return NOT_BUILT;
        }
        return built.startAt(tick, i);
    }

    public int ring(int i) {
        return graph.toldAt(i);
    }

    public int cross(int data) {
        if (!isDatum(data)) {
            return OUTSIDE;
        }
        if (built == null) {
            return NOT_BUILT;
        }
        return all.copiesAcross(data);
    }

    public int budget(int task, long micros) {
        if (built == null) {
            return NOT_BUILT;
        }
        if (!built.hasTask(task)) {
            return UNKNOWN;
        }
        if (micros < 0) {
            return OUTSIDE;
        }
        return built.stepsOf(task, all) <= micros ? 1 : 0;
    }

    public int differ(int other) {
        if (built == null) {
            return NOT_BUILT;
        }
        if (!isWithin(other, 1, keptCount)) {
            return UNKNOWN;
        }
        Plan earlier = kept[other - 1];
        if (earlier == null) {
            return UNKNOWN;
        }
        return built.tasksNotIn(earlier);
    }

    private Plan nextPlan() {
        if (keptCount >= kept.length) {
            return unkept;
        }
        Plan plan = new Plan();
        kept[keptCount] = plan;
        keptCount++;
        return plan;
    }

    private static boolean isWithin(int value, int least, int most) {
        return value >= least && value <= most;
    }

    private static boolean isDatum(int data) {
        return isWithin(data, 1, DATA);
    }

    /** Sets of runnables, of data and of cores are ints: number n is in one if its bit n is set. */
    private static boolean isIn(int set, int number) {
        return (set & (1 << number)) != 0;
    }

    /** What is to run. The rows go by a runnable's number, so place 0 is never used. */
    private static final class Runnables {
        private int count;
        private final int[] period;
        private final int[] core;
        private final int[] steps;
        private final int[] reads;
        private final int[] writes;

        Runnables() {
            period = new int[MOST_RUNNABLES + 1];
            core = new int[MOST_RUNNABLES + 1];
            steps = new int[MOST_RUNNABLES + 1];
            reads = new int[MOST_RUNNABLES + 1];
            writes = new int[MOST_RUNNABLES + 1];
        }

        boolean has(int number) {
            return isWithin(number, 1, count);
        }

        boolean isFull() {
            return count >= MOST_RUNNABLES;
        }

        /** The caller has seen that there is room. */
        int add(int itsPeriod, int itsCore, int itsSteps) {
            count++;
            period[count] = itsPeriod;
            core[count] = itsCore;
            steps[count] = itsSteps;
            return count;
        }

        void addRead(int number, int datum) {
            reads[number] |= 1 << datum;
        }

        void addWrite(int number, int datum) {
            writes[number] |= 1 << datum;
        }

        int dataUsedBy(int number) {
            return Integer.bitCount(reads[number] | writes[number]);
        }

        /** The set of the runnables of one core and one period. */
        int group(int itsCore, int itsPeriod) {
            int set = 0;
            for (int r = 1; r <= count; r++) {
                if (core[r] == itsCore && period[r] == itsPeriod) {
                    set |= 1 << r;
                }
            }
            return set;
        }

        /** The least period of a core that is greater than another one; 0 if there is none. */
        int periodAbove(int itsCore, int low) {
            int least = 0;
            for (int r = 1; r <= count; r++) {
                if (core[r] == itsCore && period[r] > low && (least == 0 || period[r] < least)) {
                    least = period[r];
                }
            }
            return least;
        }

        int tasksOn(int itsCore) {
            int tasks = 0;
            for (int r = 1; r <= count; r++) {
                if (core[r] == itsCore && opensTask(r)) {
                    tasks++;
                }
            }
            return tasks;
        }

        /** A task is counted once: at the least of its runnables. */
        private boolean opensTask(int number) {
            if (period[number] == 0) {
                return true;
            }
            for (int r = 1; r < number; r++) {
                if (core[r] == core[number] && period[r] == period[number]) {
                    return false;
                }
            }
            return true;
        }

        int copiesAcross(int datum) {
            int readOn = 0;
            int writtenOn = 0;
            for (int r = 1; r <= count; r++) {
                if (isIn(reads[r], datum)) {
                    readOn |= 1 << core[r];
                }
                if (isIn(writes[r], datum)) {
                    writtenOn |= 1 << core[r];
                }
            }
            int copies = 0;
            for (int c = 1; c <= CORES; c++) {
                boolean writtenElsewhere = (writtenOn & ~(1 << c)) != 0;
                if (isIn(readOn, c) && writtenElsewhere) {
                    copies++;
                }
            }
            return copies;
        }
    }

    /** The needs that order, and the last ring that one of them would have closed. */
    private static final class Graph {
        /** Whom a runnable is told to come behind. */
        private final int[] toldBefore;
        /** Whom it comes behind, also over others; held so that a ring is seen before it is closed. */
        private final int[] allBefore;
        /** Used anew for each ring: layer n has those from which a way of n needs leads to the ring's end. */
        private final int[] layer;
        private final int[] told;
        private int toldCount;

        Graph() {
            toldBefore = new int[MOST_RUNNABLES + 1];
            allBefore = new int[MOST_RUNNABLES + 1];
            layer = new int[MOST_RUNNABLES];
            told = new int[MOST_RUNNABLES];
        }

        boolean wouldCloseRing(int a, int b) {
            return a == b || isIn(allBefore[a], b);
        }

        void add(int a, int b) {
            toldBefore[b] |= 1 << a;
            int more = allBefore[a] | (1 << a);
            for (int r = 1; r <= MOST_RUNNABLES; r++) {
                if (r == b || isIn(allBefore[r], b)) {
                    allBefore[r] |= more;
                }
            }
        }

        /**
         * Layers are made from a back to the first that has b, so each way down through them is a shortest one;
         * the least next runnable at each step then makes the least of these.
         */
        void tellRing(int a, int b) {
            int distance = layersFrom(a, b);
            told[0] = b;
            for (int i = 1; i <= distance; i++) {
                told[i] = leastBehind(told[i - 1], layer[distance - i]);
            }
            toldCount = distance + 1;
        }

        int toldAt(int i) {
            return i >= 0 && i < toldCount ? told[i] : 0;
        }

        /** The least of a set that comes behind none of the set; 0 if there is none. */
        int leastFree(int set) {
            for (int r = 1; r <= MOST_RUNNABLES; r++) {
                if (isIn(set, r) && (allBefore[r] & set) == 0) {
                    return r;
                }
            }
            return 0;
        }

        /** Fills the layers from a on, until b is in one: that one's number. */
        private int layersFrom(int a, int b) {
            layer[0] = 1 << a;
            int n = 0;
            while (n < layer.length - 1 && !isIn(layer[n], b)) {
                layer[n + 1] = toldBeforeAny(layer[n]);
                n++;
            }
            return n;
        }

        private int toldBeforeAny(int set) {
            int before = 0;
            for (int r = 1; r <= MOST_RUNNABLES; r++) {
                if (isIn(set, r)) {
                    before |= toldBefore[r];
                }
            }
            return before;
        }

        private int leastBehind(int number, int set) {
            for (int r = 1; r <= MOST_RUNNABLES; r++) {
                if (isIn(set, r) && isIn(toldBefore[r], number)) {
                    return r;
                }
            }
            return 0;
        }
    }

    /** One build. The rows go by a task's number (taskOf: by a runnable's), so their place 0 is never used. */
    private static final class Plan {
        private int taskCount;
        private final int[] taskOf;
        private final int[] periodOf;
        private final int[] rankOf;
        /** The tasks' orders, one behind the other; a task's order ends where the next one's starts. */
        private final int[] row;
        private final int[] startOf;

        Plan() {
            taskOf = new int[MOST_RUNNABLES + 1];
            periodOf = new int[MOST_RUNNABLES + 1];
            rankOf = new int[MOST_RUNNABLES + 1];
            row = new int[MOST_RUNNABLES];
            startOf = new int[MOST_RUNNABLES + 2];
        }

        void layOut(Runnables all, Graph graph) {
            taskCount = 0;
            for (int core = 1; core <= CORES; core++) {
                int tasksBefore = taskCount;
                addEventTasks(core, all, graph);
                addPeriodTasks(core, all, graph);
                for (int t = tasksBefore + 1; t <= taskCount; t++) {
                    rankOf[t] = taskCount - t + 1;
                }
            }
        }

        private void addEventTasks(int core, Runnables all, Graph graph) {
            int events = all.group(core, 0);
            for (int r = 1; r <= MOST_RUNNABLES; r++) {
                if (isIn(events, r)) {
                    addTask(0, 1 << r, graph);
                }
            }
        }

        private void addPeriodTasks(int core, Runnables all, Graph graph) {
            int period = all.periodAbove(core, 0);
            for (int n = 0; n < MOST_RUNNABLES && period > 0; n++) {
                addTask(period, all.group(core, period), graph);
                period = all.periodAbove(core, period);
            }
        }

        private void addTask(int period, int group, Graph graph) {
            if (taskCount >= MOST_RUNNABLES) {
                return;
            }
            taskCount++;
            periodOf[taskCount] = period;
            int left = group;
            int place = startOf[taskCount];
            while (left != 0 && place < row.length) {
                int next = graph.leastFree(left);
                row[place] = next;
                taskOf[next] = taskCount;
                left &= ~(1 << next);
                place++;
            }
            startOf[taskCount + 1] = place;
        }

        boolean hasTask(int task) {
            return isWithin(task, 1, taskCount);
        }

        private int sizeOf(int task) {
            return startOf[task + 1] - startOf[task];
        }

        int runnableAt(int task, int i) {
            return i >= 0 && i < sizeOf(task) ? row[startOf[task] + i] : 0;
        }

        int stepsOf(int task, Runnables all) {
            int sum = 0;
            for (int place = startOf[task]; place < startOf[task + 1]; place++) {
                sum += all.steps[row[place]];
            }
            return sum;
        }

        /** Tasks are numbered by cores, then from the greatest rank down: just as those that start are asked for. */
        int startAt(int tick, int i) {
            int started = 0;
            for (int t = 1; t <= taskCount; t++) {
                if (periodOf[t] > 0 && tick % periodOf[t] == 0) {
                    if (started == i) {
                        return t;
                    }
                    started++;
                }
            }
            return 0;
        }

        boolean isCopied(Runnables all, int datum) {
            for (int r = 1; r <= all.count; r++) {
                if (isIn(all.reads[r], datum) && isWrittenAbove(r, all, datum)) {
                    return true;
                }
            }
            return false;
        }

        private boolean isWrittenAbove(int reader, Runnables all, int datum) {
            int rank = rankOf[taskOf[reader]];
            for (int r = 1; r <= all.count; r++) {
                boolean writes = isIn(all.writes[r], datum) && all.core[r] == all.core[reader];
                if (writes && rankOf[taskOf[r]] > rank) {
                    return true;
                }
            }
            return false;
        }

        int tasksNotIn(Plan earlier) {
            int tasks = 0;
            for (int t = 1; t <= taskCount; t++) {
                if (!standsIn(earlier, t)) {
                    tasks++;
                }
            }
            return tasks;
        }

        /** A runnable keeps its core and its period, so tasks with the same order have the same of both. */
        private boolean standsIn(Plan earlier, int task) {
            int itsTask = earlier.taskOf[runnableAt(task, 0)];
            if (!earlier.hasTask(itsTask) || earlier.sizeOf(itsTask) != sizeOf(task)) {
                return false;
            }
            for (int i = 0; i < sizeOf(task); i++) {
                if (earlier.runnableAt(itsTask, i) != runnableAt(task, i)) {
                    return false;
                }
            }
            return true;
        }
    }
}
