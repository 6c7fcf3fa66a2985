/** Promise 10: cause. */
public final class CauseTest {
    private static final Check CHECK = new Check();

    public static void main(String[] args) {
        wrongCalls();
        commitGoesBeforeWaiting();
        squashedAheadOfItsTurn();
        notSquashedByABranchAtItsSide();
        faultGoesBeforeWorking();
        waitingGoesBeforeWorking();
        CHECK.end();
    }

    private static void wrongCalls() {
        StageCycles x = new StageCycles(0, 0, 0, 0, 0, 0);
        for (int cause : new int[] {-1, 5, 6, Integer.MIN_VALUE, Integer.MAX_VALUE}) {
            CHECK.dueThrow("cause(" + cause + ")", IndexOutOfBoundsException.class, () -> x.cause(cause));
        }
        for (int cause = 0; cause < 5; cause++) {
            CHECK.due("cause(" + cause + ") at first", x.cause(cause), 0);
        }
    }

    private static void commitGoesBeforeWaiting() {
        StageCycles x = Cores.core(4, 1, 1, 3, 1, 2);
        Cores.set(x, 2, 2);
        Cores.load(x, 1, 2);
        Cores.mul(x, 3, 1, 1);
        Cores.stop(x);
        // in cycle 5 the MUL waits, and in 6 it works, but words leave in them
        Cores.dueCycles(CHECK, "commits", x, "4: 0 . . .", "4: 1 0 . .", "4: 2 1 0 .", "4: 3 2 1 0", "0: 3 2 . 1",
                "0: 3 2 . .", "4: . 3 2 .", "4: . . 3 2", "0: . . . 3", "0: . . . .");
        CHECK.due("causes", Cores.causes(x), "4 0 0 0 6");
    }

    /** In cycle 6 the ADD in R would wait for the LOAD, but the branch squashes it first. */
    private static void squashedAheadOfItsTurn() {
        StageCycles x = Cores.core(6, 1, 1, 5, 3, 1);
        Cores.set(x, 1, 1);
        Cores.branch(x, 1, 5);
        Cores.load(x, 2, 0);
        Cores.add(x, 3, 2, 2, 0);
        Cores.set(x, 4, 4);
        Cores.stop(x);
        Cores.dueCycles(CHECK, "squashed", x, "4: 0 . . . . .", "4: 1 0 . . . .", "4: 2* 1 0 . . .",
                "4: 3* 2* 1 0 . .", "4: 4* 3* 2* 1 0 .", "4: . . . . 1 0");
        CHECK.due("causes", Cores.causes(x), "0 0 0 0 6");
        StageCycles y = Cores.core(6, 1, 1, 5, 3, 5);
        Cores.set(y, 1, 1);
        Cores.branch(y, 1, 5);
        Cores.mul(y, 2, 0, 0);
        // the MUL works in cycle 5, and would in 6
        Cores.dueCycles(CHECK, "squashed at work", y, "4: 0 . . . . .", "4: 1 0 . . . .", "4: 2* 1 0 . . .",
                "4: 0* 2* 1 0 . .", "3: 0* 2* . 1 0 .", "4: . . . . 1 0");
    }

    /** An astray word waits and works as any other does, as long as it is not squashed. */
    private static void notSquashedByABranchAtItsSide() {
        StageCycles x = Cores.core(7, 1, 1, 6, 5, 1);
        Cores.set(x, 1, 1);
        Cores.branch(x, 1, 4);
        Cores.load(x, 2, 0);
        Cores.add(x, 3, 2, 2, 0);
        Cores.stop(x);
        Cores.dueCycles(CHECK, "astray", x, "4: 0 . . . . . .", "4: 1 0 . . . . .", "4: 2* 1 0 . . . .",
                "4: 3* 2* 1 0 . . .", "4: 4* 3* 2* 1 0 . .", "2: 4* 3* . 2* 1 0 .", "2: 4* 3* . . 2* 1 0",
                "0: . . . . . . 1", "0: 4 . . . . . .");
    }

    private static void faultGoesBeforeWorking() {
        StageCycles x = Cores.core(3, 1, 1, 1, 1, 8);
        Cores.fault(x);
        Cores.mul(x, 1, 1, 1);
        // the MUL is in R from cycle 3 on, but the FAULT leaves in 4
        Cores.dueCycles(CHECK, "FAULT", x, "4: 0 . .", "4: 1* 0 .", "4: 0* 1* 0", "1: . . .", "4: 0 . .");
        CHECK.due("causes", Cores.causes(x), "0 1 0 0 4");
        for (int i = 0; i < 3; i++) {
            x.run(4);
        }
        CHECK.due("causes of a fault in every fourth cycle", Cores.causes(x), "0 4 0 0 13");
    }

    private static void waitingGoesBeforeWorking() {
        StageCycles x = Cores.core(6, 2, 5, 5, 2, 3);
        Cores.set(x, 1, 3);
        Cores.mul(x, 2, 1, 1);
        Cores.stop(x);
        Cores.dueCycles(CHECK, "MUL", x, "4: 0 . . . . .", "4: 1 0 . . . .", "4: 2 1 0 . . .", "4: . 2 1 0 . .",
                "2: . 2 1 . 0 .", "2: . 2 1 . . 0", "0: . 2 1 . . .", "3: . 2 1 . . .", "4: . . 2 1 . .");
        CHECK.due("causes", Cores.causes(x), "1 0 2 1 5");
    }
}
