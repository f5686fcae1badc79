/** The fourteen promises, sentence by sentence: each part is named by the words that it is the test of. */
public final class PromisesTest {
    private static final int LEAST = Integer.MIN_VALUE;
    private static final int MOST = Integer.MAX_VALUE;
    /** Numbers that are none of a run's runnables, tasks or builds; 33 has the place of 1 in a set of 32. */
    private static final int[] NO_NUMBERS = {LEAST, LEAST + 1, -32, -31, -1, 0, 25, 32, 33, 65536 + 1, MOST - 1, MOST};
    /** Places that no order, tick or ring has. */
    private static final int[] NO_PLACES = {LEAST, LEAST + 1, -32, -1, 24, 25, 32, 65536, MOST - 1, MOST};
    private static final Due due = new Due();

    private PromisesTest() {
    }

    public static void main(String[] args) {
        newObject();
        runnable();
        needs();
        area();
        build();
        task();
        order();
        rank();
        buffer();
        table();
        ring();
        cross();
        budget();
        differ();
        due.end();
    }

    private static Run part(String words) {
        due.part(words);
        return new Run(due);
    }

    private static void newObject() {
        part("1: No runnables").task(1, -1).needs(1, 1, false, -1).needs(1, 1, true, -1).area(1, 1, -1).task(0, -1);
        part("1: nothing is built, no ring is told").nothingIsBuilt().wholeRing();
        part("1: what is built of none").build(0)
            .order(1, 0, -1).rank(1, -1).budget(1, 0, -1).task(1, -1).wholeTick(0).wholeTick(MOST)
            .buffer(1, 0).buffer(20, 0).cross(1, 0).cross(20, 0).differ(1, 0);
        Run other = part("1: a new object has nothing of another one");
        Run first = new Run(due).runnables(0, 2, 10, 1).chain(2, 1).needs(1, 2, false, 0).build(1);
        other.task(1, -1).ring(0, 0).nothingIsBuilt();
        first.wholeOrder(1, 2, 1).wholeRing(2, 1);
    }

    private static void runnable() {
        part("2: A runnable: its number").runnable(0, 1, 0, 1).runnable(1000, 4, 100000, 2).runnable(500, 2, 7, 3);
        part("2: two that are alike are two").runnable(5, 1, 1, 1).runnable(5, 1, 1, 2).build(1).wholeOrder(1, 1, 2);
        part("2: -2 PERIOD .. none").runnable(-1, 1, 0, -2).runnable(1001, 1, 0, -2)
            .runnable(LEAST, 1, 0, -2).runnable(MOST, 1, 0, -2).task(1, -1);
        part("2: -2 .. CORE .. none").runnable(0, 0, 0, -2).runnable(0, 5, 0, -2).runnable(0, -1, 0, -2)
            .runnable(0, LEAST, 0, -2).runnable(0, MOST, 0, -2).task(1, -1);
        part("2: -2 .. STEPS are none").runnable(0, 1, -1, -2).runnable(0, 1, 100001, -2)
            .runnable(0, 1, LEAST, -2).runnable(0, 1, MOST, -2).task(1, -1);
        part("2: -2 all of them are none").runnable(-1, 0, -1, -2).runnable(LEAST, MOST, LEAST, -2).task(1, -1);
        part("2: -4 there are 24").runnables(0, 24, 10, 1).runnable(10, 1, 1, -4).runnable(0, 4, 0, -4)
            .runnable(1000, 4, 100000, -4).task(25, -1);
    }

    private static void needs() {
        part("3: A need: b comes behind a: 1").runnables(0, 2, 10, 1)
            .needs(2, 1, false, 1).build(1).wholeOrder(1, 2, 1);
        part("3: also if that was told").runnables(0, 2, 10, 1)
            .needs(2, 1, false, 1).needs(2, 1, false, 1).needs(2, 1, true, 1).needs(2, 1, true, 1)
            .build(1).wholeOrder(1, 2, 1).needs(1, 2, false, 0).wholeRing(2, 1);
        part("3: also if it follows from others").runnables(0, 3, 10, 1).chain(3, 2, 1).needs(3, 1, false, 1)
            .build(1).wholeOrder(1, 3, 2, 1).needs(1, 3, false, 0).wholeRing(3, 1);
        part("3: DELAYED and not are two needs: the DELAYED one first").runnables(0, 2, 10, 1)
            .needs(2, 1, true, 1).build(1).wholeOrder(1, 1, 2)
            .needs(2, 1, false, 1).build(1).wholeOrder(1, 2, 1).needs(1, 2, false, 0);
        part("3: DELAYED and not are two needs: the DELAYED one behind").runnables(0, 2, 10, 1)
            .needs(2, 1, false, 1).needs(2, 1, true, 1).build(1).wholeOrder(1, 2, 1).needs(1, 2, false, 0);
        part("3: 0 it would close a RING").runnables(0, 3, 10, 1).chain(1, 2, 3)
            .needs(2, 1, false, 0).needs(3, 1, false, 0).needs(3, 2, false, 0).needs(2, 2, false, 0)
            .needs(3, 1, false, 0).build(1).wholeOrder(1, 1, 2, 3);
        part("3: a DELAYED one closes none").runnables(0, 3, 10, 1).chain(1, 2, 3)
            .needs(2, 1, true, 1).needs(3, 1, true, 1).needs(2, 2, true, 1).wholeRing();
        part("3: a RING over other cores and PERIODS").runnable(0, 1, 1, 1).runnable(5, 2, 1, 2).runnable(9, 3, 1, 3)
            .chain(2, 1, 3).needs(3, 2, false, 0).wholeRing(2, 1, 3);
        needsOfUnknown();
    }

    private static void needsOfUnknown() {
        Run run = part("3: -1 there is no such runnable").runnables(0, 3, 10, 1).chain(1, 2);
        for (int none : NO_NUMBERS) {
            run.needs(none, 1, false, -1).needs(1, none, false, -1).needs(none, none, false, -1)
                .needs(none, 1, true, -1).needs(1, none, true, -1).needs(none, none, true, -1);
        }
        run.needs(4, 1, false, -1).needs(1, 4, false, -1).needs(4, 4, false, -1).wholeRing()
            .runnable(10, 1, 1, 4).needs(4, 1, false, 1).build(1).wholeOrder(1, 3, 4, 1, 2);
        part("3: all 24 are such").runnables(0, 24, 10, 1).needs(24, 1, false, 1).needs(1, 24, false, 0)
            .needs(25, 1, false, -1).needs(1, 25, false, -1);
    }

    private static void area() {
        part("4: how many data it uses").runnables(0, 2, 10, 1).area(1, 5, 1).area(1, -7, 2).area(2, 5, 1);
        part("4: each counted once").runnables(0, 1, 10, 1)
            .area(1, 5, 1).area(1, 5, 1).area(1, -5, 1).area(1, -5, 1).area(1, -6, 2).area(1, 6, 2);
        Run run = part("4: all 20 are used").runnables(0, 24, 10, 1);
        for (int d = 1; d <= 20; d++) {
            run.area(24, d % 2 == 0 ? d : -d, d);
        }
        run.area(24, 1, 20).area(24, -20, 20).area(1, 20, 1).area(23, 1, 1);
        part("4: READS a datum, or, with minus its number, WRITES it").runnable(20, 1, 1, 1).runnable(10, 1, 1, 2)
            .area(1, 3, 1).area(2, -3, 1).area(1, -4, 2).area(2, 4, 2).build(2).buffer(3, 1).buffer(4, 0);
        areaOfUnknown();
    }

    private static void areaOfUnknown() {
        Run run = part("4: -1 there is no runnable").runnables(0, 2, 10, 1);
        for (int none : NO_NUMBERS) {
            run.area(none, 1, -1).area(none, -1, -1);
        }
        run.area(3, 1, -1).area(-1, 1, -1).area(-2, -1, -1).runnable(10, 1, 1, 3).area(3, 1, 1);
        Run second = part("4: -2 there is no such datum").runnables(0, 2, 10, 1);
        for (int none : new int[] {LEAST, LEAST + 1, -33, -32, -22, -21, 0, 21, 22, 32, 33, MOST - 1, MOST}) {
            second.area(1, none, -2);
        }
        second.area(1, 20, 1).area(1, -20, 1).area(1, 1, 2).area(1, -1, 2).area(2, -1, 1).area(2, -20, 2);
    }

    private static void build() {
        part("5: how many TASKS there are").build(0).runnable(10, 1, 1, 1).build(1).runnable(10, 1, 1, 2).build(1)
            .runnable(10, 2, 1, 3).build(2).runnable(0, 2, 1, 4).build(3).runnable(0, 2, 1, 5).build(4)
            .runnable(20, 2, 1, 6).build(5).build(5).tasks(1, 1, 4, 2, 3, 5);
        part("5: a build behind a build is the same again").runnables(0, 2, 10, 1).chain(2, 1).area(1, 1, 1)
            .build(1).build(1).wholeOrder(1, 2, 1).wholeRanks(1).differ(1, 0).differ(2, 0);
        part("5: -4 a core would have more than 12").runnables(0, 12, 0, 2).build(12).rank(1, 12)
            .runnable(1, 2, 1, 13).build(-4).build(-4);
        part("5: .. more than 12, by PERIODS alone, among other cores").runnables(0, 4, 0, 1).runnables(4, 1, 9, 3)
            .runnable(1, 4, 1, 6).runnable(2, 4, 1, 7).runnable(3, 4, 1, 8).runnable(4, 4, 1, 9).runnable(5, 4, 1, 10)
            .runnable(6, 4, 1, 11).runnable(7, 4, 1, 12).runnable(8, 4, 1, 13).runnable(9, 4, 1, 14)
            .runnable(10, 4, 1, 15).runnable(11, 4, 1, 16).runnable(12, 4, 1, 17).build(17).runnable(12, 4, 1, 18)
            .build(17).runnable(13, 4, 1, 19).build(-4);
        part("5: (then what was built is gone)").runnables(0, 12, 0, 2).build(12).runnable(1, 2, 1, 13)
            .build(-4).nothingIsBuilt().task(1, -3).task(13, -3).task(14, -1);
    }

    private static void task() {
        part("6: The TASK of a runnable").runnable(5, 2, 1, 1).runnable(0, 1, 1, 2).runnable(5, 2, 1, 3).build(2)
            .tasks(2, 1, 2);
        part("6: of 24").runnables(0, 12, 0, 4).runnables(12, 12, 0, 1).build(24).task(1, 13).task(12, 24)
            .task(13, 1).task(24, 12);
        Run run = part("6: -1 there is none").runnables(0, 2, 10, 1).build(1);
        for (int none : NO_NUMBERS) {
            run.task(none, -1);
        }
        run.task(3, -1).task(-2, -1).task(2, 1);
        part("6: -3").runnables(0, 1, 10, 1).task(1, -3).build(1).task(1, 1).area(1, 1, 1).task(1, -3);
    }

    private static void order() {
        part("7: The i-th (from 0) runnable in a TASK's order").runnables(0, 3, 10, 1).runnable(0, 1, 1, 4)
            .chain(3, 1).build(2).order(1, 0, 4).order(2, 0, 2).order(2, 1, 3).order(2, 2, 1);
        Run none = part("7: 0 if there is none").runnables(0, 3, 10, 1).runnable(0, 1, 1, 4).build(2)
            .order(1, 1, 0).order(2, 3, 0);
        for (int place : NO_PLACES) {
            none.order(1, place, 0).order(2, place, 0);
        }
        Run all = part("7: an order of all 24").runnables(0, 24, 10, 1).build(1).order(1, 0, 1).order(1, 23, 24);
        for (int place : NO_PLACES) {
            all.order(1, place, 0);
        }
        Run run = part("7: -1 there is no TASK").runnables(0, 3, 10, 1).build(1);
        for (int number : NO_NUMBERS) {
            run.order(number, 0, -1).order(number, -1, -1).order(number, 99, -1);
        }
        run.order(2, 0, -1).order(1, 0, 1);
        part("7: -3").runnables(0, 1, 10, 1).order(1, 0, -3).order(1, 1, -3).order(1, -1, -3).build(1).order(1, 0, 1)
            .needs(1, 1, true, 1).order(1, 0, -3);
    }

    private static void rank() {
        part("8: A TASK's RANK").runnable(30, 1, 1, 1).runnable(20, 1, 1, 2).runnable(0, 1, 1, 3)
            .runnable(30, 3, 1, 4).build(4).wholeRanks(3, 2, 1, 1);
        part("8: of 12 on the last core").runnables(0, 12, 0, 4).build(12).rank(1, 12).rank(12, 1);
        Run run = part("8: -1 there is none").runnables(0, 3, 10, 1).build(1);
        for (int number : NO_NUMBERS) {
            run.rank(number, -1);
        }
        run.rank(2, -1).rank(1, 1);
        part("8: a TASK of an earlier build is none now").runnables(0, 1, 10, 1).build(1).rank(2, -1)
            .runnable(0, 1, 1, 2).build(2).rank(2, 1).rank(3, -1);
        part("8: -3").runnables(0, 1, 10, 1).rank(1, -3).build(1).rank(1, 1).runnable(10, 1, 1, 2).rank(1, -3);
    }

    private static void buffer() {
        part("9: Whether a datum is COPIED: 1 or 0").runnable(20, 1, 1, 1).runnable(0, 1, 1, 2)
            .area(1, 1, 1).area(2, -1, 1).area(1, -2, 2).area(2, 2, 2).build(2).buffer(1, 1).buffer(2, 0).buffer(3, 0);
        part("9: several pairs are still 1").runnable(1, 1, 1, 1).runnable(2, 1, 1, 2).runnable(3, 1, 1, 3)
            .area(1, -9, 1).area(2, -9, 1).area(2, 9, 1).area(3, 9, 1).build(3).buffer(9, 1);
        Run run = part("9: -2 there is none").runnables(0, 1, 10, 1).build(1);
        for (int none : new int[] {LEAST, LEAST + 1, -32, -20, -1, 0, 21, 22, 32, 33, MOST - 1, MOST}) {
            run.buffer(none, -2);
        }
        run.buffer(1, 0).buffer(20, 0);
        part("9: -3").runnables(0, 1, 10, 1).buffer(1, -3).buffer(20, -3).build(1).buffer(1, 0)
            .area(1, 1, 1).buffer(1, -3).buffer(20, -3);
    }

    private static void table() {
        part("10: those whose PERIOD is not 0 and divides it").runnable(6, 1, 1, 1).runnable(4, 2, 1, 2)
            .runnable(0, 3, 1, 3).runnable(1, 4, 1, 4).build(4)
            .wholeTick(0, 1, 2, 4).wholeTick(1, 4).wholeTick(4, 2, 4).wholeTick(5, 4).wholeTick(6, 1, 4)
            .wholeTick(12, 1, 2, 4).wholeTick(MOST - 1, 1, 4).wholeTick(MOST, 4);
        part("10: by cores, then by RANK, the greatest first").runnable(6, 2, 1, 1).runnable(4, 2, 1, 2)
            .runnable(0, 2, 1, 3).runnable(6, 1, 1, 4).runnable(2, 2, 1, 5).runnable(12, 1, 1, 6).build(6)
            .wholeTick(12, 1, 2, 4, 5, 6).wholeTick(0, 1, 2, 4, 5, 6).wholeTick(6, 1, 4, 6).wholeTick(8, 4, 5);
        Run none = part("10: 0 if there is none").runnable(7, 1, 1, 1).runnable(0, 1, 1, 2).build(2)
            .wholeTick(1).wholeTick(6).wholeTick(8).wholeTick(7, 2);
        for (int place : NO_PLACES) {
            none.table(0, place, 0).table(7, place, 0).table(1, place, 0);
        }
        tableOfAll();
        part("10: -2 the tick is below 0").runnable(1, 1, 1, 1).build(1).table(-1, 0, -2).table(-7, 0, -2)
            .table(LEAST, 0, -2).table(LEAST + 1, 0, -2).table(-1, -1, -2).table(-1, 99, -2).table(0, 0, 1);
        part("10: -3").runnable(1, 1, 1, 1).table(0, 0, -3).table(MOST, 9, -3).table(0, -1, -3).build(1)
            .table(0, 0, 1).area(1, 1, 1).table(0, 0, -3);
    }

    private static void tableOfAll() {
        Run run = part("10: all 24 start at a tick");
        int[] want = new int[24];
        for (int n = 1; n <= 24; n++) {
            run.runnable(1 + (n - 1) % 12, n <= 12 ? 1 : 3, 1, n);
            want[n - 1] = n;
        }
        run.build(24).wholeTick(0, want).wholeTick(27720, want).wholeTick(1, 1, 13).wholeTick(11, 1, 11, 13, 23);
        for (int place : NO_PLACES) {
            run.table(0, place, 0);
        }
    }

    private static void ring() {
        part("11: Runnable i (from 0) of the last RING that was told").runnables(0, 4, 10, 1).chain(1, 2, 3)
            .needs(3, 1, false, 0).ring(0, 1).ring(1, 2).ring(2, 3).needs(2, 2, false, 0).wholeRing(2)
            .needs(3, 2, false, 0).wholeRing(2, 3).needs(2, 1, false, 0).wholeRing(1, 2);
        part("11: it stays told until another one is").runnables(0, 3, 10, 1).chain(1, 2).needs(2, 1, false, 0)
            .needs(2, 1, true, 1).needs(2, 3, false, 1).needs(9, 9, false, -1).area(1, 1, 1).runnable(0, 1, 1, 4)
            .build(2).wholeRing(1, 2).task(9, -1).build(2).wholeRing(1, 2);
        Run none = part("11: 0 if there is none").ring(0, 0);
        for (int place : NO_PLACES) {
            none.ring(place, 0);
        }
        none.runnables(0, 2, 10, 1).chain(1, 2).wholeRing().needs(1, 2, true, 1).wholeRing().build(1).wholeRing()
            .needs(2, 1, false, 0).ring(1, 2).ring(2, 0).needs(1, 1, false, 0).ring(0, 1).ring(1, 0).ring(2, 0);
        for (int place : NO_PLACES) {
            none.ring(place, 0);
        }
        part("11: told without a build, too").runnables(0, 1, 10, 1)
            .needs(1, 1, false, 0).nothingIsBuilt().wholeRing(1);
        ringOf24();
    }

    private static void ringOf24() {
        Run run = part("11: the places of a RING of 24").runnables(0, 24, 10, 1);
        for (int r = 1; r < 24; r++) {
            run.needs(r, r + 1, false, 1);
        }
        run.needs(24, 1, false, 0).ring(0, 1).ring(1, 2).ring(22, 23).ring(23, 24);
        for (int place : NO_PLACES) {
            run.ring(place, 0);
        }
    }

    private static void cross() {
        part("12: How many COPIES ACROSS a datum has").runnable(10, 1, 1, 1).runnable(10, 2, 1, 2)
            .runnable(0, 3, 1, 3).runnable(0, 4, 1, 4).area(1, 20, 1).area(2, 20, 1).area(3, 20, 1).area(4, 20, 1)
            .area(4, -20, 1).area(1, 1, 2).area(2, -2, 2).area(3, 3, 2).area(3, -3, 2).build(4)
            .cross(20, 3).cross(1, 0).cross(2, 0).cross(3, 0).cross(4, 0);
        part("12: all four").runnable(10, 1, 1, 1).runnable(10, 2, 1, 2).runnable(0, 3, 1, 3).runnable(0, 4, 1, 4)
            .area(1, 1, 1).area(2, 1, 1).area(3, 1, 1).area(4, 1, 1).area(2, -1, 1).area(3, -1, 1).build(4).cross(1, 4);
        Run run = part("12: -2 there is none").runnables(0, 1, 10, 1).build(1);
        for (int none : new int[] {LEAST, LEAST + 1, -32, -20, -1, 0, 21, 22, 32, 33, MOST - 1, MOST}) {
            run.cross(none, -2);
        }
        run.cross(1, 0).cross(20, 0);
        part("12: -3").runnables(0, 1, 10, 1).cross(1, -3).cross(20, -3).build(1).cross(1, 0)
            .area(1, 1, 1).cross(1, -3).cross(20, -3);
    }

    private static void budget() {
        part("13: Whether the STEPS of a TASK, together, are at most so many: 1 or 0").runnable(10, 1, 100, 1)
            .runnable(20, 1, 5, 2).runnable(10, 1, 23, 3).build(2)
            .budget(1, 122, 0).budget(1, 123, 1).budget(1, 124, 1).budget(2, 4, 0).budget(2, 5, 1);
        part("13: no STEPS").runnable(0, 1, 0, 1).build(1).budget(1, 0, 1).budget(1, 1, 1).budget(1, -1, -2);
        part("13: micros at the ends of int and long").runnable(10, 1, 1, 1).build(1).budget(1, 0, 0)
            .budget(1, MOST, 1).budget(1, MOST + 1L, 1).budget(1, 1L << 32, 1).budget(1, Long.MAX_VALUE - 1, 1)
            .budget(1, Long.MAX_VALUE, 1);
        Run full = part("13: the most STEPS that a TASK can have");
        for (int n = 1; n <= 24; n++) {
            full.runnable(1, 1, 100000, n);
        }
        full.build(1).budget(1, 2399999, 0).budget(1, 2400000, 1).budget(1, 2400001, 1);
        Run run = part("13: -1 there is no TASK").runnables(0, 3, 10, 1).build(1);
        for (int number : NO_NUMBERS) {
            run.budget(number, 0, -1).budget(number, Long.MAX_VALUE, -1);
        }
        run.budget(2, 9, -1).budget(1, 3, 1);
        part("13: -2 micros are below 0").runnables(0, 1, 10, 1).build(1).budget(1, -1, -2).budget(1, LEAST, -2)
            .budget(1, LEAST - 1L, -2).budget(1, -(1L << 32), -2).budget(1, (-1L << 32) + 5, -2)
            .budget(1, Long.MIN_VALUE + 1, -2).budget(1, Long.MIN_VALUE, -2);
        part("13: -3").runnables(0, 1, 10, 1).budget(1, 1, -3).build(1).budget(1, 1, 1).area(1, 1, 1).budget(1, 1, -3);
    }

    private static void differ() {
        part("14: How many TASKS of the last build are not in an earlier one").runnables(0, 2, 10, 2)
            .runnable(0, 2, 1, 3).build(2).runnable(5, 1, 1, 4).build(3).differ(1, 1)
            .runnable(7, 4, 1, 5).build(4).differ(1, 2).differ(2, 1);
        part("14: (or itself: 0)").build(0).differ(1, 0).runnables(0, 2, 0, 1)
            .build(2).differ(2, 0).build(2).differ(3, 0);
        part("14: of the last build: what only the earlier one has does not count").runnables(0, 2, 10, 1).build(1)
            .runnable(10, 1, 1, 3).runnables(3, 2, 0, 2).build(3).differ(1, 3).chain(3, 1).build(3).differ(2, 1);
        part("14: all are new behind a build of none").build(0).runnables(0, 12, 0, 1).runnables(12, 12, 0, 4).build(24)
            .differ(1, 24).differ(2, 0);
        part("14: with the same .. order").runnables(0, 3, 10, 1).build(1).chain(2, 1).build(1).differ(1, 1)
            .chain(3, 2).build(1).differ(1, 1).differ(2, 1).differ(3, 0);
        part("14: the same order by other needs").runnables(0, 3, 10, 1).build(1).chain(1, 2, 3).build(1).differ(1, 0);
        part("14: an order that is longer, or has the same end").runnables(0, 2, 10, 1).build(1)
            .runnable(10, 1, 1, 3).build(1).differ(1, 1).chain(3, 1).build(1).differ(1, 1).differ(2, 1);
        part("14: with the same core, PERIOD: new numbers and RANKS are no change").runnable(10, 2, 1, 1)
            .build(1).task(1, 1).rank(1, 1).runnable(0, 2, 1, 2).runnable(5, 1, 1, 3).runnable(20, 2, 1, 4).build(4)
            .task(1, 3).rank(3, 2).differ(1, 3);
        part("14: data and DELAYED needs are no change").runnables(0, 2, 10, 1).build(1).area(1, 1, 1).build(1)
            .needs(2, 1, true, 1).build(1).differ(1, 0).differ(2, 0);
        differOfUnknown();
        part("14: -3").runnables(0, 1, 10, 1).differ(1, -3).build(1).differ(1, 0).area(1, 1, 1).differ(1, -3)
            .build(1).differ(1, 0);
    }

    private static void differOfUnknown() {
        Run run = part("14: -1 there is no such build").runnables(0, 1, 10, 1).build(1).build(1);
        for (int number : NO_NUMBERS) {
            run.differ(number, -1);
        }
        run.differ(3, -1).differ(-2, -1).differ(2, 0).differ(1, 0);
        Run kept = part("14: -1 .. or it is not kept").runnables(0, 1, 10, 1);
        for (int n = 1; n <= 40; n++) {
            kept.build(1).differ(n, 0).differ(n + 1, -1);
        }
        kept.build(1).differ(40, 0).differ(41, -1).build(1).differ(40, 0).differ(41, -1).differ(42, -1).differ(1, 0);
    }
}
