/** Promise 11: count. */
public final class CountTest {
    private static final Check CHECK = new Check();

    public static void main(String[] args) {
        others();
        cycleByCycle();
        branchesOnceKnown();
        CHECK.end();
    }

    private static void others() {
        StageCycles x = new StageCycles(0, 0, 0, 0, 0, 0);
        for (int what : new int[] {-1, 14, 15, 64, Integer.MIN_VALUE, Integer.MAX_VALUE}) {
            CHECK.due("count(" + what + ")", x.count(what), -1);
        }
    }

    private static void dueCounts(StageCycles x, int... counts) {
        int[] whats = {0, 1, 2, 3, 4, 5, 6, 7, 8, 9, 10, 11, 12, 13};
        for (int i = 0; i < whats.length; i++) {
            CHECK.due("cycle " + x.count(0) + ", count(" + whats[i] + ")", x.count(whats[i]), counts[i]);
        }
    }

    private static void cycleByCycle() {
        StageCycles x = Cores.core(5, 2, 2, 3, 4, 6);
        x.set(true, 2);
        dueCounts(x, 0, 0, 0, 0, 0, 0, 5, 2, 2, 3, 4, 6, 0, 0);
        Cores.set(x, 1, 1);
        Cores.fault(x);
        Cores.branch(x, 1, 4);
        Cores.fault(x);
        Cores.stop(x);
        dueCounts(x, 0, 0, 0, 0, 0, 0, 5, 2, 2, 3, 4, 6, 5, 0);
        x.run(1);
        dueCounts(x, 1, 0, 1, 0, 0, 0, 5, 2, 2, 3, 4, 6, 5, 0);
        x.run(4);
        dueCounts(x, 5, 0, 5, 0, 0, 0, 5, 2, 2, 3, 4, 6, 5, 0);
        x.run(1);
        dueCounts(x, 6, 1, 6, 0, 0, 0, 5, 2, 2, 3, 4, 6, 5, 0);
        // the FAULT leaves in 7: words 2, 3, 4 and 0 are squashed; the branch is fetched in 8, and leaves in 13
        x.run(1);
        dueCounts(x, 7, 1, 6, 4, 1, 0, 5, 2, 2, 3, 4, 6, 5, 0);
        x.run(5);
        dueCounts(x, 12, 1, 11, 4, 1, 0, 5, 2, 2, 3, 4, 6, 5, 0);
        x.run(1);
        dueCounts(x, 13, 2, 11, 8, 1, 0, 5, 2, 2, 3, 4, 6, 5, 1);
        x.run(5);
        dueCounts(x, 18, 2, 12, 8, 1, 0, 5, 2, 2, 3, 4, 6, 5, 1);
        x.run(5);
        dueCounts(x, 19, 3, 12, 8, 1, 1, 5, 2, 2, 3, 4, 6, 5, 1);
    }

    /** A branch has gone when it goes on from B: neither when it is fetched nor when it is committed. */
    private static void branchesOnceKnown() {
        for (int b = 1; b < 7; b++) {
            StageCycles x = Cores.core(7, 1, 1, 1, b, 1);
            Cores.set(x, 1, 1);
            Cores.branch(x, 1, 3);
            Cores.stop(x);
            Cores.stop(x);
            for (int cycle = 1; cycle <= 10; cycle++) {
                x.run(1);
                // it is fetched in cycle 2, and goes on from stage s in cycle 3 + s
                CHECK.due("B " + b + ", cycle " + cycle, x.count(13), cycle < 3 + b ? 0 : 1);
            }
        }
    }
}
