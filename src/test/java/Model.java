import java.util.ArrayList;
import java.util.HashSet;
import java.util.List;
import java.util.Set;
import java.util.TreeMap;

/** The document's words done the slow way, with nothing in common with the program: for runs with no answers told. */
final class Model {
    record Item(int period, int core, int steps) { }

    record Task(int core, int period, List<Integer> order) { }

    private final List<Item> items = new ArrayList<>();
    private final Set<List<Integer>> needs = new HashSet<>();
    private final Set<List<Integer>> reads = new HashSet<>();
    private final Set<List<Integer>> writes = new HashSet<>();
    private final List<List<Task>> builds = new ArrayList<>();
    private List<Integer> told = List.of();
    private List<Task> last;

    int runnable(int period, int core, int steps) {
        if (period < 0 || period > 1000 || core < 1 || core > 4 || steps < 0 || steps > 100000) {
            return -2;
        }
        if (items.size() == 24) {
            return -4;
        }
        last = null;
        items.add(new Item(period, core, steps));
        return items.size();
    }

    private boolean known(int r) {
        return r >= 1 && r <= items.size();
    }

    private Item item(int r) {
        return items.get(r - 1);
    }

    int needs(int a, int b, boolean delayed) {
        if (!known(a) || !known(b)) {
            return -1;
        }
        if (!delayed) {
            List<Integer> way = way(b, a);
            if (way != null) {
                told = way;
                return 0;
            }
            needs.add(List.of(a, b));
        }
        last = null;
        return 1;
    }

    /** Ways of one length at a time, in the order of their runnables: the first that ends at the goal. */
    private List<Integer> way(int from, int goal) {
        for (int length = 1; length <= items.size(); length++) {
            List<Integer> way = extend(List.of(from), goal, length);
            if (way != null) {
                return way;
            }
        }
        return null;
    }

    private List<Integer> extend(List<Integer> way, int goal, int length) {
        int end = way.get(way.size() - 1);
        if (way.size() == length) {
            return end == goal ? way : null;
        }
        for (int r = 1; r <= items.size(); r++) {
            if (needs.contains(List.of(end, r))) {
                List<Integer> longer = new ArrayList<>(way);
                longer.add(r);
                List<Integer> found = extend(longer, goal, length);
                if (found != null) {
                    return found;
                }
            }
        }
        return null;
    }

    int area(int runnable, int data) {
        if (!known(runnable)) {
            return -1;
        }
        if (data == 0 || data > 20 || data < -20) {
            return -2;
        }
        last = null;
        (data > 0 ? reads : writes).add(List.of(runnable, Math.abs(data)));
        int used = 0;
        for (int d = 1; d <= 20; d++) {
            if (reads.contains(List.of(runnable, d)) || writes.contains(List.of(runnable, d))) {
                used++;
            }
        }
        return used;
    }

    int build() {
        last = null;
        TreeMap<Integer, List<Integer>> groups = new TreeMap<>();
        for (int r = 1; r <= items.size(); r++) {
            Item item = item(r);
            int key = item.core() * 1000000 + (item.period() == 0 ? r : item.period() * 100);
            groups.computeIfAbsent(key, k -> new ArrayList<>()).add(r);
        }
        List<Task> tasks = new ArrayList<>();
        boolean[][] reach = reach();
        for (List<Integer> group : groups.values()) {
            Item first = item(group.get(0));
            tasks.add(new Task(first.core(), first.period(), ordered(group, reach)));
        }
        for (int core = 1; core <= 4; core++) {
            if (ofCore(tasks, core) > 12) {
                return -4;
            }
        }
        last = tasks;
        builds.add(tasks);
        return tasks.size();
    }

    private static long ofCore(List<Task> tasks, int core) {
        return tasks.stream().filter(t -> t.core() == core).count();
    }

    private boolean[][] reach() {
        int n = items.size() + 1;
        boolean[][] reach = new boolean[n][n];
        for (List<Integer> need : needs) {
            reach[need.get(0)][need.get(1)] = true;
        }
        for (int via = 1; via < n; via++) {
            for (int a = 1; a < n; a++) {
                for (int b = 1; b < n; b++) {
                    reach[a][b] |= reach[a][via] && reach[via][b];
                }
            }
        }
        return reach;
    }

    private static List<Integer> ordered(List<Integer> group, boolean[][] reach) {
        List<Integer> order = new ArrayList<>();
        while (order.size() < group.size()) {
            for (int r : group) {
                boolean free = !order.contains(r);
                for (int before : group) {
                    free &= !reach[before][r] || order.contains(before);
                }
                if (free) {
                    order.add(r);
                    break;
                }
            }
        }
        return order;
    }

    private boolean hasTask(int t) {
        return t >= 1 && t <= last.size();
    }

    private int taskOf(int runnable) {
        for (int t = 1; t <= last.size(); t++) {
            if (last.get(t - 1).order().contains(runnable)) {
                return t;
            }
        }
        throw new IllegalStateException("a runnable without a task");
    }

    private int rankOf(int t) {
        int core = last.get(t - 1).core();
        return (int) (ofCore(last, core) - ofCore(last.subList(0, t - 1), core));
    }

    int task(int runnable) {
        return !known(runnable) ? -1 : last == null ? -3 : taskOf(runnable);
    }

    int order(int task, int i) {
        if (last == null) {
            return -3;
        }
        if (!hasTask(task)) {
            return -1;
        }
        return at(last.get(task - 1).order(), i);
    }

    private static int at(List<Integer> list, int i) {
        return i >= 0 && i < list.size() ? list.get(i) : 0;
    }

    int rank(int task) {
        return last == null ? -3 : !hasTask(task) ? -1 : rankOf(task);
    }

    int buffer(int data) {
        if (data < 1 || data > 20) {
            return -2;
        }
        if (last == null) {
            return -3;
        }
        for (List<Integer> read : reads) {
            for (List<Integer> write : writes) {
                int reader = read.get(0);
                int writer = write.get(0);
                boolean both = read.get(1) == data && write.get(1) == data;
                if (both && item(reader).core() == item(writer).core()
                        && rankOf(taskOf(writer)) > rankOf(taskOf(reader))) {
                    return 1;
                }
            }
        }
        return 0;
    }

    int table(int tick, int i) {
        if (tick < 0) {
            return -2;
        }
        if (last == null) {
            return -3;
        }
        List<Integer> starts = new ArrayList<>();
        for (int t = 1; t <= last.size(); t++) {
            int period = last.get(t - 1).period();
            if (period != 0 && tick % period == 0) {
                starts.add(t);
            }
        }
        starts.sort((t, u) -> {
            int byCore = last.get(t - 1).core() - last.get(u - 1).core();
            return byCore != 0 ? byCore : rankOf(u) - rankOf(t);
        });
        return at(starts, i);
    }

    int ring(int i) {
        return at(told, i);
    }

    int cross(int data) {
        if (data < 1 || data > 20) {
            return -2;
        }
        if (last == null) {
            return -3;
        }
        Set<Integer> cores = new HashSet<>();
        for (List<Integer> read : reads) {
            for (List<Integer> write : writes) {
                int on = item(read.get(0)).core();
                if (read.get(1) == data && write.get(1) == data && item(write.get(0)).core() != on) {
                    cores.add(on);
                }
            }
        }
        return cores.size();
    }

    int budget(int task, long micros) {
        if (last == null) {
            return -3;
        }
        if (!hasTask(task)) {
            return -1;
        }
        if (micros < 0) {
            return -2;
        }
        long sum = last.get(task - 1).order().stream().mapToLong(r -> item(r).steps()).sum();
        return sum <= micros ? 1 : 0;
    }

    int differ(int other) {
        if (last == null) {
            return -3;
        }
        if (other < 1 || other > 40 || other > builds.size()) {
            return -1;
        }
        List<Task> earlier = builds.get(other - 1);
        return (int) last.stream().filter(t -> !earlier.contains(t)).count();
    }
}
