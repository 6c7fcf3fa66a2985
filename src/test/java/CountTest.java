/** Promise 11: count. */
public final class CountTest {
    private static final Check CHECK = new Check();

    public static void main(String[] args) {
        CHECK.sentence("NONE for another what", CountTest::others);
        CHECK.sentence("Cycles (0), committed (1) .. branches on the way that went (13)", CountTest::cycleByCycle);
        CHECK.sentence("committed (1)", CountTest::committedBeyond400);
        CHECK.sentence("fetched (2)", CountTest::fetchedAstrayToo);
        CHECK.sentence("squashed words on the way and astray (3)", CountTest::squashed);
        CHECK.sentence("faults that left (4)", CountTest::faultsThatLeft);
        CHECK.sentence("1 when STOP left (5)", CountTest::stopLeft);
        CHECK.sentence("words (12)", CountTest::words);
        CHECK.sentence("branches on the way that went (13)", CountTest::branchesOnceKnown);
        CHECK.end();
    }

    private static void others() {
        StageCycles x = new StageCycles(0, 0, 0, 0, 0, 0);
        dueOthers(x, "a new object");
        Cores.stop(x);
        x.run(100);
        dueOthers(x, "behind a STOP");
    }

    private static void dueOthers(StageCycles x, String state) {
        for (int what : new int[] {-1, -2, 14, 15, 64, Integer.MIN_VALUE, Integer.MAX_VALUE}) {
            CHECK.due(state + ", count(" + what + ")", x.count(what), -1);
        }
    }

    private static void dueCounts(StageCycles x, String due) {
        CHECK.due("cycle " + x.count(0) + ", counts", Cores.counts(x), due);
    }

    private static void cycleByCycle() {
        StageCycles x = Cores.core(5, 2, 2, 3, 4, 6);
        x.set(true, 2);
        dueCounts(x, "0 0 0 0 0 0 5 2 2 3 4 6 0 0");
        Cores.set(x, 1, 1);
        Cores.fault(x);
        Cores.branch(x, 1, 4);
        Cores.fault(x);
        Cores.stop(x);
        dueCounts(x, "0 0 0 0 0 0 5 2 2 3 4 6 5 0");
        x.run(1);
        dueCounts(x, "1 0 1 0 0 0 5 2 2 3 4 6 5 0");
        x.run(4);
        dueCounts(x, "5 0 5 0 0 0 5 2 2 3 4 6 5 0");
        x.run(1);
        dueCounts(x, "6 1 6 0 0 0 5 2 2 3 4 6 5 0");
        // the FAULT leaves in 7: words 2, 3, 4 and 0 are squashed; the branch is fetched in 8, and leaves in 13
        x.run(1);
        dueCounts(x, "7 1 6 4 1 0 5 2 2 3 4 6 5 0");
        x.run(5);
        dueCounts(x, "12 1 11 4 1 0 5 2 2 3 4 6 5 0");
        x.run(1);
        dueCounts(x, "13 2 11 8 1 0 5 2 2 3 4 6 5 1");
        x.run(5);
        dueCounts(x, "18 2 12 8 1 0 5 2 2 3 4 6 5 1");
        x.run(5);
        dueCounts(x, "19 3 12 8 1 1 5 2 2 3 4 6 5 1");
    }

    private static void committedBeyond400() {
        StageCycles x = Cores.core(3, 1, 1, 1, 1, 1);
        Cores.fill(x, 2);
        x.run(3);
        CHECK.due("before the first", x.count(1), 0);
        for (int cycles : new int[] {1, 399, 1, 2000, 2000}) {
            x.run(cycles);
            CHECK.due("committed in " + x.count(0) + " cycles", x.count(1), x.count(0) - 3);
        }
    }

    private static void fetchedAstrayToo() {
        StageCycles x = Cores.core(5, 1, 1, 1, 3, 1);
        Cores.set(x, 1, 1);
        Cores.branch(x, 1, 0);
        Cores.fill(x, 3);
        // the branch goes on from B in cycle 6; astray are the words that are fetched in 3, 4 and 5
        int[] due = {1, 2, 3, 4, 5, 5, 6, 7, 8};
        for (int cycle = 1; cycle <= due.length; cycle++) {
            x.run(1);
            CHECK.due("cycle " + cycle, x.count(2), due[cycle - 1]);
        }
    }

    /** The FAULT, or the branch, is not squashed itself; nor is what is older than it. */
    private static void squashed() {
        for (int n = 3; n <= 8; n++) {
            StageCycles x = Cores.core(n, 1, 1, 1, 1, 1);
            Cores.set(x, 1, 1);
            Cores.branch(x, 1, 3);
            Cores.fill(x, 1);
            Cores.fault(x);
            x.run(4);
            CHECK.due("N " + n + ", by the branch", x.count(3), 1);
            // the FAULT is fetched in cycle 5, and leaves in 5 + n
            x.run(n);
            CHECK.due("N " + n + ", before the FAULT leaves", x.count(3), 1);
            x.run(1);
            CHECK.due("N " + n + ", by the FAULT", x.count(3), 1 + (n - 1));
            CHECK.due("N " + n + ", faults", x.count(4), 1);
        }
    }

    private static void faultsThatLeft() {
        StageCycles x = Cores.core(4, 1, 1, 1, 3, 1);
        x.set(true, 3);
        Cores.set(x, 1, 1);
        Cores.branch(x, 1, 3);
        Cores.fault(x);
        Cores.fault(x);
        // the first FAULT is astray; the other one is fetched in cycle 7, leaves in 11, and is fetched again in 12
        x.run(10);
        CHECK.due("before one leaves", x.count(4), 0);
        x.run(1);
        CHECK.due("as it leaves", x.count(4), 1);
        x.run(4);
        CHECK.due("before it leaves again", x.count(4), 1);
        x.run(1);
        CHECK.due("as it leaves again", x.count(4), 2);
    }

    private static void stopLeft() {
        StageCycles x = Cores.core(4, 1, 1, 1, 1, 1);
        CHECK.due("a new object", x.count(5), 0);
        Cores.stop(x);
        for (int cycle = 1; cycle <= 4; cycle++) {
            x.run(1);
            CHECK.due("cycle " + cycle, x.count(5), 0);
        }
        x.run(1);
        CHECK.due("cycle 5", x.count(5), 1);
        x.run(1);
        CHECK.due("later", x.count(5), 1);
        x.clear();
        CHECK.due("behind clear()", x.count(5), 0);
    }

    private static void words() {
        StageCycles x = Cores.core(4, 1, 1, 1, 1, 1);
        for (int w = 0; w < 64; w++) {
            CHECK.due("words", x.count(12), w);
            Cores.fill(x);
        }
        CHECK.dueThrow("a 65th", UnsupportedOperationException.class, () -> Cores.fill(x));
        CHECK.due("words", x.count(12), 64);
        x.run(9);
        CHECK.due("words behind cycles", x.count(12), 64);
        x.clear();
        CHECK.due("words behind clear()", x.count(12), 0);
    }

    /** A branch has gone when it goes on from B: neither when it is fetched nor when it is committed. */
    private static void branchesOnceKnown() {
        for (int b = 1; b < 7; b++) {
            StageCycles x = Cores.core(7, 1, 1, 1, b, 1);
            Cores.set(x, 1, 1);
            Cores.branch(x, 1, 3);
            Cores.stop(x);
            Cores.stop(x);
            for (int cycle = 1; cycle <= 10; cycle++) {
                x.run(1);
                // it is fetched in cycle 2, and goes on from stage s in cycle 3 + s
                CHECK.due("B " + b + ", cycle " + cycle, x.count(13), cycle < 3 + b ? 0 : 1);
            }
        }
    }
}
