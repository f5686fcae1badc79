/** The document's "Terms", sentence by sentence: each part is named by the words that it is the test of. */
public final class TermsTest {
    private static final int LEAST = Integer.MIN_VALUE;
    private static final int MOST = Integer.MAX_VALUE;
    private static final Due due = new Due();

    private TermsTest() {
    }

    public static void main(String[] args) {
        runnables();
        data();
        needs();
        rings();
        toBuild();
        copies();
        builds();
        calls();
        due.end();
    }

    private static Run part(String words) {
        due.part(words);
        return new Run(due);
    }

    private static void runnables() {
        numberedFromOne();
        atMost24();
        periodRange();
        periodAtItsEnds();
        eventsByPeriod0();
        coreRange();
        stepsRange();
    }

    private static void numberedFromOne() {
        part("RUNNABLES are numbered from 1 on")
            .runnable(10, 1, 1, 1).runnable(10, 1, 1, 2).runnable(0, 4, 0, 3)
            .runnable(10, 5, 1, -2).runnable(10, 1, 1, 4)
            .task(0, -1).task(1, -3).task(4, -3).task(5, -1);
    }

    private static void atMost24() {
        part("RUNNABLES .. at most 24")
            .runnables(0, 23, 10, 1).task(24, -1).runnable(0, 2, 7, 24).task(24, -3)
            .runnable(0, 2, 7, -4).runnable(0, 2, 7, -4)
            .task(25, -1).needs(24, 25, false, -1).area(25, 1, -1)
            .build(2).task(24, 2).task(25, -1).budget(2, 7, 1).budget(2, 6, 0);
    }

    private static void periodRange() {
        Run run = part("PERIOD 0 .. 1000");
        for (int none : new int[] {LEAST, LEAST + 1, -1000, -1, 1001, 1002, 65536 + 5, MOST - 1, MOST}) {
            run.runnable(none, 1, 1, -2);
        }
        run.runnable(0, 1, 1, 1).runnable(1, 1, 1, 2).runnable(999, 1, 1, 3).runnable(1000, 1, 1, 4)
            .build(4).tasks(1, 2, 3, 4);
    }

    private static void periodAtItsEnds() {
        part("PERIOD .. ticks, at 1 and 1000")
            .runnable(1, 1, 1, 1).runnable(1000, 2, 1, 2).build(2)
            .wholeTick(0, 1, 2).wholeTick(1, 1).wholeTick(999, 1).wholeTick(1000, 1, 2).wholeTick(1001, 1)
            .wholeTick(2147483000, 1, 2).wholeTick(MOST, 1);
    }

    private static void eventsByPeriod0() {
        part("PERIOD .. 0: it runs by an event")
            .runnable(0, 1, 1, 1).build(1).wholeTick(0).wholeTick(1).wholeTick(MOST).wholeOrder(1, 1);
    }

    private static void coreRange() {
        Run run = part("a CORE (1 .. 4)");
        for (int none : new int[] {LEAST, LEAST + 1, -4, -1, 0, 5, 6, 256 + 1, 65536 + 1, MOST - 1, MOST}) {
            run.runnable(10, none, 1, -2);
        }
        run.runnable(10, 4, 1, 1).runnable(10, 3, 1, 2).runnable(10, 2, 1, 3).runnable(10, 1, 1, 4)
            .build(4).tasks(4, 3, 2, 1).wholeRanks(1, 1, 1, 1);
    }

    private static void stepsRange() {
        Run run = part("STEPS (0 .. 100000)");
        for (int none : new int[] {LEAST, LEAST + 1, -100000, -1, 100001, 100002, 1 << 20, MOST - 1, MOST}) {
            run.runnable(10, 1, none, -2);
        }
        run.runnable(1, 1, 0, 1).runnable(2, 1, 1, 2).runnable(3, 1, 99999, 3).runnable(4, 1, 100000, 4).build(4)
            .budget(1, 0, 1).budget(2, 0, 0).budget(2, 1, 1).budget(3, 99998, 0).budget(3, 99999, 1)
            .budget(4, 99999, 0).budget(4, 100000, 1);
    }

    private static void data() {
        Run run = part("DATA are 1 to 20").runnable(20, 1, 1, 1).runnable(10, 1, 1, 2).runnable(10, 2, 1, 3);
        for (int none : new int[] {LEAST, LEAST + 1, -33, -22, -21, 0, 21, 22, 33, MOST - 1, MOST}) {
            run.area(1, none, -2).buffer(none, -2).cross(none, -2);
        }
        run.area(1, 1, 1).area(2, -1, 1).area(3, -1, 1).area(1, 20, 2).area(2, -20, 2).area(3, -20, 2).build(3);
        for (int none : new int[] {LEAST, LEAST + 1, -20, -1, 0, 21, 33, MOST}) {
            run.buffer(none, -2).cross(none, -2);
        }
        run.buffer(1, 1).cross(1, 1).buffer(20, 1).cross(20, 1)
            .buffer(2, 0).cross(2, 0).buffer(19, 0).cross(19, 0);

        part("a runnable may READ one")
            .runnable(20, 1, 1, 1).runnable(10, 1, 1, 2).runnable(10, 2, 1, 3)
            .area(1, 1, 1).area(2, 1, 1).area(3, 1, 1).build(3).buffer(1, 0).cross(1, 0);
        part("a runnable .. may WRITE it")
            .runnable(20, 1, 1, 1).runnable(10, 1, 1, 2).runnable(10, 2, 1, 3)
            .area(1, -1, 1).area(2, -1, 1).area(3, -1, 1).build(3).buffer(1, 0).cross(1, 0);
        part("a runnable may READ one, and may WRITE it: both")
            .runnable(20, 1, 1, 1).runnable(10, 1, 1, 2).runnable(10, 2, 1, 3)
            .area(1, 1, 1).area(1, -1, 1).area(2, -1, 1).area(2, 1, 1).area(3, -1, 1).area(3, 1, 1)
            .build(3).buffer(1, 1).cross(1, 2);
    }

    private static void needs() {
        part("A NEED: a runnable comes behind another one")
            .runnables(0, 3, 10, 1).build(1).wholeOrder(1, 1, 2, 3)
            .needs(3, 1, false, 1).build(1).wholeOrder(1, 2, 3, 1)
            .needs(3, 2, false, 1).build(1).wholeOrder(1, 3, 1, 2);
        part("Needs that are DELAYED .. order nothing")
            .runnables(0, 3, 10, 1).needs(3, 1, true, 1).needs(2, 1, true, 1).build(1).wholeOrder(1, 1, 2, 3)
            .needs(1, 3, false, 1).needs(1, 2, true, 1).needs(1, 1, true, 1).ring(0, 0)
            .needs(3, 2, false, 1).build(1).wholeOrder(1, 1, 3, 2);
        part("Needs that are DELAYED order nothing, over others too")
            .runnables(0, 3, 10, 1).needs(3, 2, false, 1).needs(2, 1, true, 1).build(1).wholeOrder(1, 1, 3, 2);
        part("The others never close a RING")
            .runnables(0, 3, 10, 1).chain(3, 2, 1)
            .needs(2, 3, false, 0).needs(1, 2, false, 0).needs(1, 3, false, 0)
            .needs(1, 1, false, 0).needs(3, 3, false, 0)
            .build(1).wholeOrder(1, 3, 2, 1);
        part("a DELAYED need never closes one, and is no way in one")
            .runnables(0, 3, 10, 1).needs(1, 2, true, 1).needs(2, 1, true, 1).needs(2, 3, true, 1)
            .needs(2, 1, false, 1).needs(3, 2, false, 1).ring(0, 0).build(1).wholeOrder(1, 3, 2, 1);
    }

    private static void rings() {
        part("a need .. that would close one is refused: it is not held")
            .runnables(0, 4, 10, 1).chain(4, 3).needs(3, 4, false, 0).build(1).wholeOrder(1, 1, 2, 4, 3)
            .needs(3, 1, false, 1).needs(1, 2, false, 1).build(1).wholeOrder(1, 4, 3, 1, 2);
        part("that RING is told: b, then the way from b to a")
            .runnables(0, 4, 10, 1).chain(3, 1, 4).needs(4, 3, false, 0).wholeRing(3, 1, 4);
        part("the way .. by the needs that there are: not over DELAYED ones, nor over refused ones")
            .runnables(0, 4, 10, 1).needs(1, 4, true, 1).chain(1, 2, 3, 4).needs(2, 1, false, 0).wholeRing(1, 2)
            .needs(4, 2, false, 0).wholeRing(2, 3, 4).needs(4, 1, false, 0).wholeRing(1, 2, 3, 4);
        part("with the fewest runnables")
            .runnables(0, 6, 10, 1).chain(1, 2, 3, 6).chain(1, 5, 6).needs(6, 1, false, 0).wholeRing(1, 5, 6)
            .needs(1, 6, false, 1).needs(6, 1, false, 0).wholeRing(1, 6);
        part("of these the one whose second is the least")
            .runnables(0, 6, 10, 1).chain(1, 4, 2, 6).chain(1, 3, 5, 6).needs(6, 1, false, 0).wholeRing(1, 3, 5, 6);
        part("then the third, and so on")
            .runnables(0, 9, 10, 1).chain(9, 2, 7, 5, 1).chain(2, 6, 8, 1).chain(6, 4, 1).chain(9, 3, 7)
            .needs(1, 9, false, 0).wholeRing(9, 2, 6, 4, 1);
        part("by the needs that there are: a runnable has several before it, and several behind it")
            .runnables(0, 24, 10, 1).chain(24, 3, 23).chain(24, 2, 23).chain(1, 23).chain(20, 23)
            .needs(23, 24, false, 0).wholeRing(24, 2, 23).needs(3, 24, false, 0).wholeRing(24, 3)
            .needs(23, 2, false, 0).wholeRing(2, 23).needs(23, 3, false, 0).wholeRing(3, 23)
            .needs(23, 1, false, 0).wholeRing(1, 23);
        part("up to a")
            .runnables(0, 3, 10, 1).chain(1, 2, 3).needs(2, 1, false, 0).wholeRing(1, 2);
        part("(a and b one: just that one.)")
            .runnables(0, 24, 10, 1).chain(1, 2).needs(1, 1, false, 0).wholeRing(1)
            .needs(24, 24, false, 0).wholeRing(24);
        ringOfAll();
    }

    private static void ringOfAll() {
        Run run = part("a RING of all 24").runnables(0, 24, 10, 1);
        int[] want = new int[24];
        for (int i = 0; i < 24; i++) {
            want[i] = 24 - i;
        }
        run.chain(want).needs(1, 24, false, 0).wholeRing(want).build(1).wholeOrder(1, want);
    }

    private static void toBuild() {
        part("on each core, runnables of one PERIOD are a TASK")
            .runnable(10, 1, 1, 1).runnable(10, 2, 1, 2).runnable(20, 1, 1, 3).runnable(10, 1, 1, 4)
            .runnable(10, 2, 1, 5).runnable(10, 1, 1, 6).build(3)
            .wholeOrder(1, 1, 4, 6).wholeOrder(2, 3).wholeOrder(3, 2, 5).tasks(1, 3, 2, 1, 3, 1);
        part("each with PERIOD 0 a TASK by itself")
            .runnables(0, 3, 0, 1).runnable(0, 2, 1, 4).build(4)
            .wholeOrder(1, 1).wholeOrder(2, 2).wholeOrder(3, 3).wholeOrder(4, 4);
        part("TASKS are numbered from 1 on by cores, then by PERIODS, the least first")
            .runnable(1, 4, 1, 1).runnable(1000, 1, 1, 2).runnable(5, 3, 1, 3).runnable(4, 3, 1, 4)
            .runnable(999, 1, 1, 5).runnable(7, 2, 1, 6).build(6).tasks(6, 2, 5, 4, 1, 3).order(0, 0, -1);
        part("those of PERIOD 0 first of all, by their runnables")
            .runnable(1, 1, 1, 1).runnable(0, 2, 1, 2).runnable(0, 1, 1, 3).runnable(1, 2, 1, 4)
            .runnable(0, 1, 1, 5).build(5).tasks(3, 4, 1, 5, 2);
        part("needs have no say in the numbers of those of PERIOD 0")
            .runnables(0, 2, 0, 1).needs(2, 1, false, 1).build(2).tasks(1, 2);
        ranks();
        twelveOfACore();
        orders();
    }

    private static void ranks() {
        part("The RANK of a TASK is how many TASKS of its core there are, less how many .. come before it")
            .runnable(10, 1, 1, 1).runnable(0, 1, 1, 2).runnable(20, 1, 1, 3).runnable(10, 1, 1, 4)
            .runnable(5, 3, 1, 5).runnable(6, 3, 1, 6).build(5).wholeRanks(3, 2, 1, 2, 1);
        part("a core's only TASK has RANK 1").runnable(10, 2, 1, 1).build(1).wholeRanks(1);
        part("RANKS of a full core and of the next one")
            .runnables(0, 12, 0, 1).runnables(12, 12, 0, 2).build(24)
            .wholeRanks(12, 11, 10, 9, 8, 7, 6, 5, 4, 3, 2, 1, 12, 11, 10, 9, 8, 7, 6, 5, 4, 3, 2, 1);
    }

    private static void twelveOfACore() {
        for (int core = 1; core <= 4; core++) {
            Run run = part("A core has at most 12 TASKS: core " + core);
            for (int n = 1; n <= 11; n++) {
                run.runnable(n % 3 == 0 ? 0 : n, core, 1, n);
            }
            run.build(11).runnable(1000, core, 1, 12).build(12).runnable(1000, core, 1, 13).build(12)
                .runnable(0, core, 1, 14).build(-4).nothingIsBuilt();
        }
        part("12 TASKS of PERIOD 0, and one more").runnables(0, 12, 0, 3).build(12).runnable(0, 3, 1, 13).build(-4);
        part("12 of PERIOD 0 and one with a PERIOD").runnables(0, 12, 0, 3).runnable(1, 3, 1, 13).build(-4);
        part("12 is for one core, not for all")
            .runnables(0, 12, 0, 1).runnables(12, 12, 0, 4).build(24).task(24, 24).wholeOrder(24, 24);
        part("24 runnables of one PERIOD are one TASK").runnables(0, 24, 5, 2).build(1);
        part("12 TASKS, the first or the last of them with two runnables")
            .runnables(0, 2, 5, 2).runnables(2, 11, 0, 2).build(12).runnable(5, 2, 1, 14).build(12)
            .wholeOrder(12, 1, 2, 14).runnable(6, 2, 1, 15).build(-4);
    }

    private static void orders() {
        part("The order in a TASK: again and again the least runnable of it")
            .runnables(0, 5, 10, 1).chain(4, 2).chain(5, 1).build(1).wholeOrder(1, 3, 4, 2, 5, 1);
        part("while all of the TASK that it comes behind are")
            .runnables(0, 4, 10, 1).chain(2, 1).chain(4, 1).build(1).wholeOrder(1, 2, 3, 4, 1);
        part("of the TASK: those of others it does not wait for")
            .runnable(10, 1, 1, 1).runnable(10, 1, 1, 2).runnable(20, 1, 1, 3).runnable(0, 2, 1, 4)
            .chain(3, 1).chain(4, 1).build(3).wholeOrder(1, 1, 2);
        part("also over others .. whatever c is: of the same TASK")
            .runnables(0, 3, 10, 1).chain(3, 2, 1).build(1).wholeOrder(1, 3, 2, 1);
        part("whatever c is: of another PERIOD")
            .runnables(0, 2, 10, 1).runnable(20, 1, 1, 3).chain(2, 3, 1).build(2).wholeOrder(1, 2, 1);
        part("whatever c is: of another core")
            .runnables(0, 2, 10, 1).runnable(10, 2, 1, 3).chain(2, 3, 1).build(2).wholeOrder(1, 2, 1);
        part("whatever c is: of PERIOD 0")
            .runnables(0, 2, 10, 1).runnable(0, 1, 1, 3).chain(2, 3, 1).build(2).wholeOrder(2, 2, 1);
        part("over several others, told from the end on")
            .runnables(0, 2, 10, 1).runnable(20, 1, 1, 3).runnable(0, 4, 1, 4).runnable(30, 2, 1, 5)
            .chain(5, 1).chain(4, 5).chain(3, 4).chain(2, 3).build(4).wholeOrder(1, 2, 1);
        part("over several others, told from the midst on")
            .runnables(0, 2, 10, 1).runnable(20, 1, 1, 3).runnable(0, 4, 1, 4).runnable(30, 2, 1, 5)
            .chain(4, 5).chain(2, 3).chain(5, 1).chain(3, 4).build(4).wholeOrder(1, 2, 1);
    }

    private static void copies() {
        copied();
        across();
    }

    private static void copied() {
        part("A DATUM is COPIED, if .. the writing one has the greater RANK")
            .runnable(10, 1, 1, 1).runnable(20, 1, 1, 2).area(2, 1, 1).area(1, -1, 1).area(1, 2, 2).area(2, -2, 2)
            .build(2).buffer(1, 1).buffer(2, 0);
        part("a TASK that READS it and another one: not if one does both")
            .runnables(0, 2, 10, 1).runnable(20, 1, 1, 3).area(1, 1, 1).area(1, -1, 1).area(1, 2, 2).area(2, -2, 1)
            .build(2).buffer(1, 0).buffer(2, 0);
        part("are of the same core")
            .runnable(10, 1, 1, 1).runnable(20, 2, 1, 2).runnable(10, 2, 1, 3).area(2, 1, 1).area(1, -1, 1)
            .build(3).buffer(1, 0).area(3, -1, 1).build(3).buffer(1, 1);
        part("COPIED on the last core, by TASKS of PERIOD 0, with the last datum")
            .runnables(0, 22, 1, 1).runnable(0, 4, 1, 23).runnable(0, 4, 1, 24).area(24, 20, 1).area(23, -20, 1)
            .area(23, 19, 2).area(24, -19, 2).build(3).buffer(20, 1).buffer(19, 0);
        part("one pair that fits is enough")
            .runnable(10, 1, 1, 1).runnable(20, 1, 1, 2).runnable(30, 1, 1, 3)
            .area(1, 1, 1).area(3, -1, 1).build(3).buffer(1, 0).area(2, 1, 1).build(3).buffer(1, 0)
            .area(2, -1, 1).build(3).buffer(1, 0).area(3, 1, 1).build(3).buffer(1, 1);
        part("RANKS are those of the build: a TASK that comes in between changes them")
            .runnable(20, 1, 1, 1).runnable(20, 1, 1, 2).area(1, 1, 1).area(2, -1, 1).build(1).buffer(1, 0)
            .runnable(10, 1, 1, 3).area(3, -1, 1).build(2).buffer(1, 1);
    }

    private static void across() {
        part("for each core on which it is READ while it is WRITTEN on another one there is a COPY ACROSS")
            .runnable(10, 1, 1, 1).runnable(10, 2, 1, 2).runnable(10, 3, 1, 3).runnable(10, 4, 1, 4)
            .area(1, -1, 1).build(4).cross(1, 0).area(2, 1, 1).build(4).cross(1, 1)
            .area(4, 1, 1).build(4).cross(1, 2).area(3, 1, 1).build(4).cross(1, 3)
            .area(1, 1, 1).build(4).cross(1, 3).area(4, -1, 1).build(4).cross(1, 4);
        part("a core is counted once")
            .runnables(0, 3, 10, 1).runnables(3, 3, 0, 2).area(1, 1, 1).area(2, 1, 1).area(3, 1, 1)
            .area(4, -1, 1).area(5, -1, 1).build(4).cross(1, 1);
        part("not within one core, and not by another datum")
            .runnable(10, 1, 1, 1).runnable(20, 1, 1, 2).runnable(10, 2, 1, 3).area(1, 1, 1).area(2, -1, 1)
            .area(3, -2, 1).build(3).cross(1, 0).cross(2, 0).cross(3, 0);
    }

    private static void builds() {
        part("BUILDS are numbered from 1 on, as they come")
            .differ(1, -3).build(0).differ(0, -1).differ(1, 0).differ(2, -1)
            .runnable(10, 1, 1, 1).build(1).differ(1, 1).differ(2, 0).differ(3, -1)
            .build(1).differ(1, 1).differ(2, 0).differ(3, 0).differ(4, -1);
        Run run = part("the first 40 are kept").runnables(0, 2, 10, 1).runnable(20, 1, 1, 3);
        for (int n = 1; n <= 39; n++) {
            run.build(2);
        }
        run.differ(39, 0).differ(40, -1).needs(2, 1, false, 1).build(2)
            .differ(1, 1).differ(39, 1).differ(40, 0).differ(41, -1)
            .runnable(20, 1, 1, 4).build(2).differ(1, 2).differ(39, 2).differ(40, 1).differ(41, -1)
            .runnable(30, 1, 1, 5).build(3).differ(40, 2).differ(1, 3).differ(41, -1).differ(42, -1).differ(43, -1)
            .task(5, 3).wholeOrder(2, 3, 4).wholeRanks(3, 2, 1);
    }

    private static void calls() {
        Run run = part("An object is used for at most 512 calls: the last of them")
            .runnables(0, 24, 10, 1).needs(24, 1, false, 1).needs(1, 24, false, 0).area(24, -20, 1);
        while (run.calls() < 512 - 30) {
            run.build(1);
        }
        run.needs(23, 2, false, 1).build(1)
            .wholeOrder(1, 3, 4, 5, 6, 7, 8, 9, 10, 11, 12, 13, 14, 15, 16, 17, 18, 19, 20, 21, 22, 23, 2, 24, 1)
            .ring(1, 1).differ(1, 1).differ(40, 1);
        due.is("calls", run.calls(), 512);
    }
}
