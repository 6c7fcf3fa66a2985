/** Promise 5: run. What a cycle does is tested in TermsCycleTest. */
public final class RunTest {
    private static final Check CHECK = new Check();
    private static final Class<IllegalArgumentException> ARGUMENT = IllegalArgumentException.class;
    private static final Class<IllegalStateException> STATE = IllegalStateException.class;
    private static final int[] BAD = {0, -1, -2000, 2001, 2002, Integer.MIN_VALUE, Integer.MAX_VALUE};

    public static void main(String[] args) {
        CHECK.sentence("So many cycles (1 .. 2000)", RunTest::soMany);
        CHECK.sentence("or until STOP left", RunTest::untilStop);
        CHECK.sentence("how many were done", RunTest::howMany);
        CHECK.sentence("IllegalArgumentException, when n is none of these", RunTest::noneOfThese);
        CHECK.sentence("IllegalStateException, when there are no words", RunTest::noWords);
        CHECK.sentence("a refused run does no cycle", RunTest::refusedRunsDoNothing);
        CHECK.sentence("one run is as many runs", RunTest::inPieces);
        CHECK.end();
    }

    private static void soMany() {
        StageCycles x = new StageCycles(0, 0, 0, 0, 0, 0);
        Cores.set(x, 1, 1);
        int cycles = 0;
        for (int n : new int[] {1, 2000, 1999, 2, 1000}) {
            CHECK.due("run(" + n + ")", x.run(n), n);
            cycles += n;
            CHECK.due("cycles", x.count(0), cycles);
            CHECK.due("committed", x.count(1), Math.max(0, cycles - 3));
        }
    }

    private static void untilStop() {
        StageCycles x = Cores.core(4, 1, 1, 1, 1, 1);
        Cores.stop(x);
        Cores.set(x, 1, 1);
        Cores.dueCycles(CHECK, "STOP", x, "4: 0 . . .", "4: . 0 . .", "4: . . 0 .", "4: . . . 0", "0: . . . .");
        CHECK.due("run(7) once STOP left", x.run(7), 0);
        CHECK.due("run(2000) once STOP left", x.run(2000), 0);
        CHECK.dueThrow("run(0) once STOP left", ARGUMENT, () -> x.run(0));
        CHECK.dueThrow("run(2001) once STOP left", ARGUMENT, () -> x.run(2001));
        CHECK.due("cycles", x.count(0), 5);
        CHECK.due("journal", Cores.journal(x), "0@5=0");
    }

    /** A STOP that leaves in the fifth cycle, run in one call that is too short, just long enough, longer. */
    private static void howMany() {
        for (int n : new int[] {1, 4, 5, 6, 1999, 2000}) {
            StageCycles x = Cores.core(4, 1, 1, 1, 1, 1);
            Cores.stop(x);
            CHECK.due("run(" + n + ")", x.run(n), Math.min(n, 5));
            CHECK.due("run(" + n + "), STOP left", x.count(5), n < 5 ? 0 : 1);
            CHECK.due("run(2000) then", x.run(2000), 5 - Math.min(n, 5));
            CHECK.due("run(1) then", x.run(1), 0);
        }
        stopInTheLastCycle();
    }

    /** The STOP leaves in cycle 2000, the last one of a run, or in the one behind it. */
    private static void stopInTheLastCycle() {
        for (int late = 0; late < 2; late++) {
            StageCycles x = Cores.core(4, 1, 1, 1, 1, 1);
            Cores.fill(x, 3 + late);
            Cores.set(x, 1, 498);
            Cores.set(x, 2, -1);
            // a round takes four cycles: the branch goes on from R two cycles behind its fetch, its target is
            // fetched in the next one; the STOP is fetched in cycle 3 + late + 4 * 498 + 1
            Cores.add(x, 1, 1, 2, 0);
            Cores.branch(x, 1, 5 + late);
            Cores.stop(x);
            CHECK.due("late " + late + ", run(2000)", x.run(2000), 2000);
            CHECK.due("late " + late + ", STOP left", x.count(5), 1 - late);
            CHECK.due("late " + late + ", run(2000) then", x.run(2000), late);
            CHECK.due("late " + late + ", STOP left then", x.count(5), 1);
        }
    }

    private static void noneOfThese() {
        StageCycles x = new StageCycles(0, 0, 0, 0, 0, 0);
        Cores.set(x, 1, 1);
        for (int n : BAD) {
            CHECK.dueThrow("run(" + n + ")", ARGUMENT, () -> x.run(n));
        }
        x.run(5);
        for (int n : BAD) {
            CHECK.dueThrow("run(" + n + ") behind cycles", ARGUMENT, () -> x.run(n));
        }
    }

    private static void noWords() {
        StageCycles x = new StageCycles(0, 0, 0, 0, 0, 0);
        for (int n : new int[] {1, 2, 1999, 2000}) {
            CHECK.dueThrow("run(" + n + ") of a new object", STATE, () -> x.run(n));
        }
        Cores.stop(x);
        CHECK.due("run(2000) with a word", x.run(2000), 4);
        x.clear();
        CHECK.dueThrow("run(1) behind clear()", STATE, () -> x.run(1));
        Cores.stop(x);
        CHECK.due("run(2000) with a word", x.run(2000), 4);
    }

    private static void refusedRunsDoNothing() {
        StageCycles x = new StageCycles(0, 0, 0, 0, 0, 0);
        CHECK.dueThrow("run(1) without words", STATE, () -> x.run(1));
        CHECK.due("cycles", x.count(0), 0);
        Cores.set(x, 1, 1);
        Cores.stop(x);
        x.run(2);
        String all = Cores.all(x);
        for (int n : BAD) {
            CHECK.dueThrow("run(" + n + ")", ARGUMENT, () -> x.run(n));
        }
        CHECK.due("all that shows", Cores.all(x), all);
        CHECK.due("run to the end", x.run(2000), 3);
    }

    private static StageCycles busy() {
        StageCycles x = Cores.core(6, 2, 3, 4, 4, 3);
        x.set(true, 6);
        Cores.set(x, 1, 1);
        Cores.load(x, 2, 1);
        Cores.mul(x, 3, 2, 1);
        Cores.branch(x, 1, 5);
        Cores.fill(x, 1);
        Cores.fault(x);
        Cores.store(x, 1, 1);
        Cores.branch(x, 2, 9);
        Cores.branch(x, 1, 0);
        Cores.stop(x);
        return x;
    }

    private static void inPieces() {
        StageCycles whole = busy();
        CHECK.due("run(60)", whole.run(60), 60);
        for (int piece : new int[] {1, 2, 3, 7, 20, 30}) {
            StageCycles x = busy();
            for (int done = 0; done < 60; done += piece) {
                x.run(Math.min(piece, 60 - done));
            }
            CHECK.due("pieces of " + piece, Cores.all(x), Cores.all(busyAfter60()));
        }
        CHECK.due("faults", whole.count(4) > 0, true);
        CHECK.due("went", whole.count(13) > 1, true);
    }

    private static StageCycles busyAfter60() {
        StageCycles x = busy();
        x.run(60);
        return x;
    }
}
