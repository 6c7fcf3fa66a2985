/** Promise 10: cause, with the document's terms of it. */
public final class CauseTest {
    private static final Check CHECK = new Check();

    public static void main(String[] args) {
        CHECK.sentence("IndexOutOfBoundsException, when there is none such", CauseTest::wrongCalls);
        CHECK.sentence("How many cycles had a cause", CauseTest::eachCycleHasOne);
        CHECK.sentence("0 one was committed", CauseTest::commitGoesFirst);
        CHECK.sentence("1 a FAULT left", CauseTest::faultGoesBeforeTheRest);
        CHECK.sentence("(unless that was squashed ahead of its turn: 4)", CauseTest::squashedAheadOfItsTurn);
        CHECK.sentence("squashed by the branch that was in R itself", CauseTest::branchInReading);
        CHECK.sentence("2 the word in R at the cycle's beginning had no operands ready in it", CauseTest::notReady);
        CHECK.sentence("2 also of a word that is astray", CauseTest::astrayWordWaits);
        CHECK.sentence("3 the word in R worked in it, and had not worked all its cycles then", CauseTest::stillWorking);
        CHECK.sentence("else 4", CauseTest::anyOther);
        CHECK.end();
    }

    private static void wrongCalls() {
        StageCycles x = new StageCycles(0, 0, 0, 0, 0, 0);
        dueWrongCalls(x, "a new object");
        Cores.stop(x);
        x.run(100);
        dueWrongCalls(x, "behind a STOP");
    }

    private static void dueWrongCalls(StageCycles x, String state) {
        for (int cause : new int[] {-1, 5, 6, Integer.MIN_VALUE, Integer.MAX_VALUE}) {
            CHECK.dueThrow(state + ", cause(" + cause + ")", IndexOutOfBoundsException.class, () -> x.cause(cause));
        }
        int all = 0;
        for (int cause = 0; cause < 5; cause++) {
            all += x.cause(cause);
        }
        CHECK.due(state + ", causes in all", all, x.count(0));
    }

    /** All five, in one run: after each cycle they are as many as there are cycles. */
    private static void eachCycleHasOne() {
        StageCycles x = Cores.core(5, 1, 1, 4, 2, 3);
        x.set(true, 5);
        Cores.load(x, 1, 0);
        Cores.mul(x, 2, 1, 1);
        Cores.branch(x, 2, 4);
        Cores.fault(x);
        Cores.fill(x, 1);
        Cores.stop(x);
        for (int cycle = 1; cycle <= 19; cycle++) {
            CHECK.due("run(1)", x.run(1), 1);
            int all = 0;
            for (int cause = 0; cause < 5; cause++) {
                all += x.cause(cause);
            }
            CHECK.due("cycle " + cycle + ", causes in all", all, cycle);
        }
        // the LOAD is waited for in cycles 4 and 5, and leaves in 6; the MUL works on in 7, and goes on in 8; it and
        // the branch leave in 11 and 12, the FAULT in 13, the STOP in 19
        CHECK.due("causes", Cores.causes(x), "4 1 2 1 11");
        CHECK.due("run behind the STOP", x.run(9), 0);
        CHECK.due("causes", Cores.causes(x), "4 1 2 1 11");
    }

    private static void commitGoesFirst() {
        StageCycles x = Cores.core(4, 1, 1, 3, 1, 2);
        Cores.set(x, 2, 2);
        Cores.load(x, 1, 2);
        Cores.mul(x, 3, 1, 1);
        Cores.stop(x);
        // in cycle 5 the MUL waits, and in 6 it works, but words leave in them
        Cores.dueCycles(CHECK, "commits", x, "4: 0 . . .", "4: 1 0 . .", "4: 2 1 0 .", "4: 3 2 1 0", "0: 3 2 . 1",
                "0: 3 2 . .", "4: . 3 2 .", "4: . . 3 2", "0: . . . 3", "0: . . . .");
        CHECK.due("causes", Cores.causes(x), "4 0 0 0 6");
        // a branch that leaves, and squashes a word that waits, is committed all the same
        StageCycles y = Cores.core(4, 1, 1, 3, 3, 1);
        Cores.set(y, 1, 1);
        Cores.branch(y, 1, 0);
        Cores.load(y, 2, 0);
        Cores.add(y, 3, 2, 2, 0);
        Cores.dueCycles(CHECK, "a branch leaves", y, "4: 0 . . .", "4: 1 0 . .", "4: 2* 1 0 .", "4: 3* 2* 1 0",
                "0: 0* 3* 2* 1", "0: . . . .", "4: 0 . . .");
    }

    private static void faultGoesBeforeTheRest() {
        StageCycles x = Cores.core(3, 1, 1, 1, 1, 8);
        Cores.fault(x);
        Cores.mul(x, 1, 1, 1);
        // the MUL is in R from cycle 3 on, but the FAULT leaves in 4
        Cores.dueCycles(CHECK, "FAULT", x, "4: 0 . .", "4: 1* 0 .", "4: 0* 1* 0", "1: . . .", "4: 0 . .");
        CHECK.due("causes", Cores.causes(x), "0 1 0 0 4");
        for (int i = 0; i < 3; i++) {
            x.run(4);
        }
        CHECK.due("causes of a fault in every fourth cycle", Cores.causes(x), "0 4 0 0 13");
        // the ADD in R waits for the LOAD between it and the FAULT
        StageCycles y = Cores.core(5, 1, 1, 4, 1, 1);
        Cores.fault(y);
        Cores.load(y, 1, 0);
        Cores.add(y, 2, 1, 1, 0);
        Cores.dueCycles(CHECK, "FAULT", y, "4: 0 . . . .", "4: 1* 0 . . .", "4: 2* 1* 0 . .", "4: 0* 2* 1* 0 .",
                "2: 0* 2* . 1* 0", "1: . . . . .", "4: 0 . . . .");
    }

    /** In cycle 6 the ADD in R would wait for the LOAD, but the branch squashes it first. */
    private static void squashedAheadOfItsTurn() {
        StageCycles x = Cores.core(6, 1, 1, 5, 3, 1);
        Cores.set(x, 1, 1);
        Cores.branch(x, 1, 5);
        Cores.load(x, 2, 0);
        Cores.add(x, 3, 2, 2, 0);
        Cores.set(x, 4, 4);
        Cores.stop(x);
        Cores.dueCycles(CHECK, "squashed", x, "4: 0 . . . . .", "4: 1 0 . . . .", "4: 2* 1 0 . . .",
                "4: 3* 2* 1 0 . .", "4: 4* 3* 2* 1 0 .", "4: . . . . 1 0");
        CHECK.due("causes", Cores.causes(x), "0 0 0 0 6");
        StageCycles y = Cores.core(6, 1, 1, 5, 3, 5);
        Cores.set(y, 1, 1);
        Cores.branch(y, 1, 5);
        Cores.mul(y, 2, 0, 0);
        // the MUL works in cycle 5, and would in 6
        Cores.dueCycles(CHECK, "squashed at work", y, "4: 0 . . . . .", "4: 1 0 . . . .", "4: 2* 1 0 . . .",
                "4: 0* 2* 1 0 . .", "3: 0* 2* . 1 0 .", "4: . . . . 1 0");
        // the ADD waits for the LOAD in cycles 6 and 7, the branch goes on from B in 8
        StageCycles z = Cores.core(8, 1, 1, 7, 5, 1);
        Cores.set(z, 1, 1);
        Cores.branch(z, 1, 5);
        Cores.load(z, 2, 0);
        Cores.add(z, 3, 2, 2, 0);
        Cores.fill(z, 2);
        Cores.dueCycles(CHECK, "squashed as it waits", z, "4: 0 . . . . . . .", "4: 1 0 . . . . . .",
                "4: 2* 1 0 . . . . .", "4: 3* 2* 1 0 . . . .", "4: 4* 3* 2* 1 0 . . .", "2: 4* 3* . 2* 1 0 . .",
                "2: 4* 3* . . 2* 1 0 .", "4: . . . . . . 1 0", "0: 5 . . . . . . 1");
    }

    /** B is R: the branch waits (2), works its one cycle and goes (4); what is squashed is below R. */
    private static void branchInReading() {
        StageCycles x = Cores.core(6, 2, 5, 5, 2, 1);
        Cores.fill(x, 1);
        Cores.set(x, 1, 1);
        Cores.branch(x, 1, 5);
        Cores.fill(x, 4);
        Cores.dueCycles(CHECK, "B is R", x, "4: 0 . . . . .", "4: 1 0 . . . .", "4: 2 1 0 . . .", "4: 3* 2 1 0 . .",
                "4: 4* 3* 2 1 0 .", "2: 4* 3* 2 . 1 0", "0: 4* 3* 2 . . 1", "0: . . . 2 . .", "4: 5 . . . 2 .");
        StageCycles y = Cores.core(6, 2, 2, 2, 2, 1);
        Cores.set(y, 1, 1);
        Cores.branch(y, 1, 5);
        Cores.fill(y, 4);
        Cores.dueCycles(CHECK, "B is R, ready", y, "4: 0 . . . . .", "4: 1 0 . . . .", "4: 2* 1 0 . . .",
                "4: 3* 2* 1 0 . .", "4: . . . 1 0 .", "4: 5 . . . 1 0");
    }

    private static void notReady() {
        StageCycles x = Cores.core(6, 2, 5, 5, 2, 3);
        Cores.set(x, 1, 3);
        Cores.mul(x, 2, 1, 1);
        Cores.stop(x);
        // the MUL waits in cycles 5 and 6; in 4 it gets into R, and was not there at the beginning
        Cores.dueCycles(CHECK, "MUL", x, "4: 0 . . . . .", "4: 1 0 . . . .", "4: 2 1 0 . . .", "4: . 2 1 0 . .",
                "2: . 2 1 . 0 .", "2: . 2 1 . . 0", "0: . 2 1 . . .", "3: . 2 1 . . .", "4: . . 2 1 . .");
        CHECK.due("causes", Cores.causes(x), "1 0 2 1 5");
    }

    private static void astrayWordWaits() {
        StageCycles x = Cores.core(7, 1, 1, 6, 5, 1);
        Cores.set(x, 1, 1);
        Cores.branch(x, 1, 4);
        Cores.load(x, 2, 0);
        Cores.add(x, 3, 2, 2, 0);
        Cores.stop(x);
        Cores.dueCycles(CHECK, "astray", x, "4: 0 . . . . . .", "4: 1 0 . . . . .", "4: 2* 1 0 . . . .",
                "4: 3* 2* 1 0 . . .", "4: 4* 3* 2* 1 0 . .", "2: 4* 3* . 2* 1 0 .", "2: 4* 3* . . 2* 1 0",
                "0: . . . . . . 1", "0: 4 . . . . . .");
    }

    /** The first M - 1 cycles of work have cause 3; the last one, in which it goes on, has 4. */
    private static void stillWorking() {
        for (int m = 1; m <= 8; m++) {
            StageCycles x = Cores.core(4, 1, 1, 1, 1, m);
            Cores.mul(x, 1, 0, 0);
            Cores.stop(x);
            x.run(2);
            for (int worked = 1; worked <= m; worked++) {
                x.run(1);
                int due = Math.min(worked, m - 1);
                CHECK.due("M " + m + ", worked " + worked, Cores.causes(x), "0 0 0 " + due + " " + (2 + worked - due));
            }
        }
        // it is ready and at work from the first cycle on: 3, not 2
        StageCycles y = Cores.core(5, 1, 1, 1, 1, 2);
        Cores.set(y, 1, 1);
        Cores.mul(y, 2, 1, 1);
        Cores.stop(y);
        Cores.dueCycles(CHECK, "M 2", y, "4: 0 . . . .", "4: 1 0 . . .", "4: 2 1 0 . .", "3: 2 1 . 0 .",
                "4: . 2 1 . 0", "0: . . 2 1 .");
    }

    private static void anyOther() {
        for (int n = 3; n <= 8; n++) {
            StageCycles x = Cores.core(n, 1, 1, 1, 1, 8);
            Cores.stop(x);
            CHECK.due("N " + n + ", run", x.run(100), n + 1);
            CHECK.due("N " + n + ", causes", Cores.causes(x), "1 0 0 0 " + n);
        }
    }
}
