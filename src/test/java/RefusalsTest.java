import java.util.ArrayList;
import java.util.List;
import java.util.function.Consumer;

/** What "Terms" says of REFUSALS: which one comes first, that they change nothing, and what takes a build away. */
public final class RefusalsTest {
    private static final int LEAST = Integer.MIN_VALUE;
    private static final int MOST = Integer.MAX_VALUE;
    private static final Due due = new Due();

    private RefusalsTest() {
    }

    public static void main(String[] args) {
        firstThatFits();
        changeNothing();
        tellRingsAlone();
        refusedBuild();
        takeABuildAway();
        leaveABuild();
        due.end();
    }

    private static Run part(String words) {
        due.part(words);
        return new Run(due);
    }

    private static void firstThatFits() {
        part("runnable: -2 before -4").runnables(0, 24, 10, 1).runnable(1001, 1, 1, -2).runnable(-1, 1, 1, -2)
            .runnable(10, 0, 1, -2).runnable(10, 5, 1, -2).runnable(10, 1, -1, -2).runnable(10, 1, 100001, -2)
            .runnable(10, 1, 1, -4);
        part("needs: -1 before 0").needs(1, 1, false, -1).runnable(10, 1, 1, 1).needs(2, 2, false, -1)
            .needs(0, 0, false, -1).wholeRing();
        part("area: -1 before -2").area(1, 0, -1).area(1, 21, -1).runnable(10, 1, 1, 1).area(2, 0, -1)
            .area(2, 21, -1).area(2, -21, -1).area(0, LEAST, -1).area(LEAST, MOST, -1).area(1, 0, -2);
        part("task: -1 before -3").task(1, -1).runnable(10, 1, 1, 1).task(2, -1).task(0, -1).task(1, -3);
        part("order: -3 before -1").order(1, 0, -3).runnable(10, 1, 1, 1).order(0, 0, -3).order(2, 0, -3)
            .order(LEAST, 0, -3).order(MOST, 0, -3).build(1).order(2, 0, -1);
        part("order: -3 and -1 before 0").runnable(10, 1, 1, 1).order(1, 9, -3).order(1, -1, -3).build(1)
            .order(2, 9, -1).order(2, -1, -1).order(1, 9, 0);
        part("rank: -3 before -1").rank(1, -3).runnable(10, 1, 1, 1).rank(0, -3).rank(2, -3).rank(LEAST, -3)
            .rank(MOST, -3).build(1).rank(2, -1);
        part("buffer: -2 before -3").buffer(0, -2).buffer(21, -2).buffer(LEAST, -2).buffer(MOST, -2).buffer(1, -3);
        part("table: -2 before -3").table(-1, 0, -2).table(LEAST, 0, -2).table(0, 0, -3).table(MOST, 0, -3);
        part("table: -2 and -3 before 0").table(-1, -1, -2).table(0, -1, -3).build(0).table(-1, -1, -2).table(0, -1, 0);
        part("cross: -2 before -3").cross(0, -2).cross(21, -2).cross(LEAST, -2).cross(MOST, -2).cross(1, -3);
        part("budget: -3 before -1 before -2").budget(1, 1, -3).budget(1, -1, -3).runnable(10, 1, 1, 1)
            .budget(2, 1, -3).budget(1, -1, -3).budget(2, -1, -3).budget(LEAST, Long.MIN_VALUE, -3).build(1)
            .budget(2, -1, -1).budget(0, Long.MIN_VALUE, -1).budget(1, -1, -2);
        part("differ: -3 before -1").differ(1, -3).differ(0, -3).build(0).differ(2, -1).runnable(10, 1, 1, 1)
            .differ(2, -3).differ(0, -3).differ(41, -3).differ(LEAST, -3).differ(MOST, -3);
    }

    /** Each refusal on one of two runs that are alike: they stay so, at once and behind more calls. */
    private static void changeNothing() {
        for (Consumer<Run> refused : refusedWhenever()) {
            alike("of a new object", run -> { }, refused);
            alike("with nothing built", RefusalsTest::someToRun, refused);
            alike("with a build", RefusalsTest::built, refused);
            alike("with a build gone", RefusalsTest::gone, refused);
            alike("of a full object", RefusalsTest::full, refused);
            alike("behind a refused build", RefusalsTest::refusedToBuild, refused);
        }
        for (Consumer<Run> refused : refusedWithRunnables()) {
            alike("with nothing built", RefusalsTest::someToRun, refused);
            alike("with a build", RefusalsTest::built, refused);
            alike("of a full object", RefusalsTest::full, refused);
        }
        for (Consumer<Run> refused : refusedWithoutBuild()) {
            alike("with nothing built", RefusalsTest::someToRun, refused);
            alike("with a build gone", RefusalsTest::gone, refused);
            alike("behind a refused build", RefusalsTest::refusedToBuild, refused);
        }
        for (Consumer<Run> refused : refusedWithBuild()) {
            alike("with a build", RefusalsTest::built, refused);
            alike("of a full object", RefusalsTest::full, refused);
        }
        alike("of a full object", RefusalsTest::full, run -> run.runnable(0, 4, 1, -4));
        alike("of a full object", RefusalsTest::full, run -> run.runnable(10, 1, 1, -4).runnable(10, 1, 1, -4));
    }

    private static List<Consumer<Run>> refusedWhenever() {
        return List.of(run -> run.runnable(-1, 1, 1, -2), run -> run.runnable(1001, 1, 1, -2),
            run -> run.runnable(10, 0, 1, -2), run -> run.runnable(10, 5, 1, -2), run -> run.runnable(10, 1, -1, -2),
            run -> run.runnable(10, 1, 100001, -2), run -> run.runnable(MOST, LEAST, MOST, -2),
            run -> run.needs(0, 1, false, -1), run -> run.needs(1, 25, false, -1), run -> run.needs(25, 25, false, -1),
            run -> run.needs(1, 0, true, -1), run -> run.needs(LEAST, MOST, true, -1),
            run -> run.area(0, 1, -1), run -> run.area(25, -1, -1), run -> run.area(LEAST, LEAST, -1),
            run -> run.task(0, -1), run -> run.task(25, -1), run -> run.task(MOST, -1),
            run -> run.buffer(0, -2), run -> run.buffer(21, -2), run -> run.cross(0, -2), run -> run.cross(LEAST, -2),
            run -> run.table(-1, 0, -2), run -> run.table(LEAST, LEAST, -2));
    }

    private static List<Consumer<Run>> refusedWithRunnables() {
        return List.of(run -> run.area(1, 0, -2), run -> run.area(2, 21, -2), run -> run.area(2, -21, -2),
            run -> run.area(1, LEAST, -2), run -> run.area(1, MOST, -2), run -> run.area(2, 33, -2),
            run -> run.area(2, -33, -2));
    }

    private static List<Consumer<Run>> refusedWithoutBuild() {
        return List.of(Run::nothingIsBuilt, run -> run.task(1, -3), run -> run.order(9, 9, -3), run -> run.rank(0, -3),
            run -> run.budget(0, -1, -3), run -> run.differ(0, -3), run -> run.table(MOST, MOST, -3));
    }

    private static List<Consumer<Run>> refusedWithBuild() {
        return List.of(run -> run.order(0, 0, -1), run -> run.order(25, 0, -1), run -> run.rank(0, -1),
            run -> run.rank(LEAST, -1), run -> run.budget(25, 1, -1), run -> run.budget(1, -1, -2),
            run -> run.budget(1, Long.MIN_VALUE, -2), run -> run.differ(0, -1), run -> run.differ(3, -1),
            run -> run.differ(41, -1));
    }

    private static void someToRun(Run run) {
        run.runnables(0, 3, 10, 1).runnable(0, 1, 3, 4).runnable(20, 1, 4, 5).runnable(10, 2, 5, 6)
            .chain(3, 1).needs(1, 3, false, 0).area(1, 1, 1).area(4, -1, 1).area(5, 2, 1).area(6, -2, 1);
    }

    private static void built(Run run) {
        someToRun(run);
        run.build(4).chain(6, 5, 2).build(4);
    }

    private static void gone(Run run) {
        built(run);
        run.area(3, 3, 1);
    }

    private static void full(Run run) {
        someToRun(run);
        run.build(4).runnables(6, 18, 20, 3).chain(24, 7).build(5);
    }

    private static void refusedToBuild(Run run) {
        someToRun(run);
        run.build(4).runnables(6, 10, 0, 1).build(-4);
    }

    private static void alike(String state, Consumer<Run> before, Consumer<Run> refused) {
        due.part("REFUSALS change nothing " + state);
        Run one = new Run(due);
        Run other = new Run(due);
        before.accept(one);
        before.accept(other);
        refused.accept(one);
        dueAlike("at once", one.answers(), other.answers());
        dueAlike("at once", one.ringAnswers(), other.ringAnswers());
        dueAlike("behind more calls", goOn(one), goOn(other));
    }

    private static void dueAlike(String when, List<String> got, List<String> want) {
        due.holds(when + ": " + got + ", due is " + want, got.equals(want));
    }

    /** Calls that bring to light what is held and not told: needs, data, builds and the next numbers. */
    private static List<String> goOn(Run run) {
        List<String> answers = new ArrayList<>();
        answers.add("runnable " + run.object().runnable(10, 2, 2));
        answers.add("runnable " + run.object().runnable(10, 1, 2));
        for (int d = 1; d <= 6; d++) {
            answers.add("area " + run.object().area(1, d));
            answers.add("area " + run.object().area(2, -d));
        }
        answers.add("needs " + run.object().needs(2, 1, false));
        answers.add("build " + run.object().build());
        answers.addAll(run.answers());
        answers.add("needs " + run.object().needs(1, 2, false));
        answers.addAll(run.ringAnswers());
        return answers;
    }

    private static void tellRingsAlone() {
        due.part("REFUSALS change nothing (but what is told of a RING)");
        Run one = new Run(due);
        Run other = new Run(due);
        built(one);
        built(other);
        one.wholeRing(3, 1).needs(2, 6, false, 0).wholeRing(6, 5, 2).needs(4, 4, false, 0).wholeRing(4);
        other.wholeRing(3, 1);
        dueAlike("at once", one.answers(), other.answers());
        dueAlike("behind more calls", goOn(one), goOn(other));
    }

    private static void refusedBuild() {
        due.part("a refused build: what was built is gone, all else is as it was");
        Run one = new Run(due);
        Run other = new Run(due);
        refusedToBuild(one);
        refusedToBuild(other);
        one.build(-4).build(-4).nothingIsBuilt();
        dueAlike("at once", one.answers(), other.answers());
        dueAlike("behind more calls", goOn(one), goOn(other));
        part("a refused build leaves the runnables, needs, data and the ring").runnables(0, 13, 0, 1).chain(2, 1)
            .area(1, 1, 1).needs(1, 2, false, 0).build(-4).wholeRing(2, 1).area(1, 2, 2).needs(1, 2, false, 0)
            .needs(1, 3, false, 1).needs(3, 2, false, 0).wholeRing(2, 1, 3).runnable(0, 2, 1, 14).task(14, -3);
    }

    private static void takeABuildAway() {
        gone("runnable()", run -> run.runnable(10, 1, 1, 7));
        gone("runnable() with 24 behind it", run -> run.runnables(6, 18, 0, 4));
        gone("needs()", run -> run.needs(1, 2, false, 1));
        gone("needs() told again", run -> run.needs(3, 1, false, 1));
        gone("needs(), delayed", run -> run.needs(2, 1, true, 1));
        gone("needs(), delayed, of one", run -> run.needs(1, 1, true, 1));
        gone("area(), to read", run -> run.area(2, 5, 1));
        gone("area(), to write", run -> run.area(2, -5, 1));
        gone("area() told again, to read", run -> run.area(1, 1, 1));
        gone("area() told again, to write", run -> run.area(4, -1, 1));
        part("before a build, nothing is built").nothingIsBuilt().runnable(10, 1, 1, 1).nothingIsBuilt().task(1, -3)
            .area(1, 1, 1).nothingIsBuilt().needs(1, 1, true, 1).nothingIsBuilt().build(1).task(1, 1).rank(1, 1);
    }

    private static void gone(String call, Consumer<Run> change) {
        Run run = part(call + " takes what was built away");
        built(run);
        run.rank(1, 3).task(1, 2);
        change.accept(run);
        run.nothingIsBuilt().task(1, -3).wholeRing(3, 1);
    }

    private static void leaveABuild() {
        Run run = part("calls that are refused, and those that only tell, leave a build");
        built(run);
        run.runnable(1001, 1, 1, -2).needs(1, 7, false, -1).needs(1, 3, false, 0).needs(2, 2, false, 0)
            .area(7, 1, -1).area(1, 21, -2).task(7, -1).order(5, 0, -1).rank(5, -1).buffer(21, -2).table(-1, 0, -2)
            .cross(0, -2).budget(1, -1, -2).differ(3, -1).ring(0, 2).task(1, 2).order(2, 0, 2).buffer(1, 1)
            .table(10, 0, 2).cross(2, 1).budget(1, 3, 1).differ(2, 0);
        run.wholeRanks(3, 2, 1, 1).wholeOrder(1, 4).wholeOrder(2, 2, 3, 1).wholeOrder(3, 5).wholeOrder(4, 6);
    }
}
