/** Promise 5: run, and the cycle of the document's terms. */
public final class RunTest {
    private static final Check CHECK = new Check();
    private static final Class<IllegalArgumentException> ARGUMENT = IllegalArgumentException.class;
    private static final Class<IllegalStateException> STATE = IllegalStateException.class;

    public static void main(String[] args) {
        wrongCalls();
        lengths();
        untilStop();
        kinds();
        handedForward();
        waitsWithoutForwarding();
        waitsForLoad();
        newestWriterCounts();
        whatIsRead();
        mulWorks();
        mulWorksWhileOthersGoOn();
        branchKnownInReading();
        branchKnownMidway();
        branchKnownAtTheEnd();
        branchToTheNextWord();
        branchThatDoesNotGo();
        astrayStopAndFault();
        fault();
        faultBehindBranch();
        wrapsAround();
        CHECK.end();
    }

    private static void wrongCalls() {
        StageCycles x = new StageCycles(0, 0, 0, 0, 0, 0);
        CHECK.dueThrow("run without words", STATE, () -> x.run(1));
        CHECK.dueThrow("run without words", STATE, () -> x.run(2000));
        for (int n : new int[] {0, -1, 2001, Integer.MIN_VALUE, Integer.MAX_VALUE}) {
            CHECK.dueThrow("run(" + n + ") without words", ARGUMENT, () -> x.run(n));
        }
        Cores.set(x, 1, 1);
        for (int n : new int[] {0, -1, 2001, Integer.MIN_VALUE, Integer.MAX_VALUE}) {
            CHECK.dueThrow("run(" + n + ")", ARGUMENT, () -> x.run(n));
        }
        CHECK.due("cycles of refused runs", x.count(0), 0);
    }

    private static void lengths() {
        StageCycles x = new StageCycles(0, 0, 0, 0, 0, 0);
        Cores.set(x, 1, 1);
        CHECK.due("run(1)", x.run(1), 1);
        CHECK.due("run(2000)", x.run(2000), 2000);
        CHECK.due("run(1999)", x.run(1999), 1999);
        CHECK.due("cycles", x.count(0), 4000);
        CHECK.due("committed", x.count(1), 3997);
    }

    private static void untilStop() {
        StageCycles x = Cores.core(4, 1, 1, 1, 1, 1);
        Cores.stop(x);
        Cores.set(x, 1, 1);
        Cores.dueCycles(CHECK, "STOP", x, "4: 0 . . .", "4: . 0 . .", "4: . . 0 .", "4: . . . 0", "0: . . . .");
        CHECK.due("run once STOP left", x.run(7), 0);
        CHECK.due("run once STOP left", x.run(2000), 0);
        CHECK.dueThrow("run(0) once STOP left", ARGUMENT, () -> x.run(0));
        CHECK.due("cycles", x.count(0), 5);
        CHECK.due("journal", Cores.journal(x), "0@5=0");
        StageCycles y = Cores.core(4, 1, 1, 1, 1, 1);
        Cores.stop(y);
        CHECK.due("run past STOP", y.run(2000), 5);
    }

    private static void kinds() {
        StageCycles x = Cores.core(5, 2, 3, 3, 3, 2);
        Cores.set(x, 1, -3);
        Cores.set(x, 2, Integer.MAX_VALUE);
        Cores.add(x, 3, 2, 1, 5);
        Cores.mul(x, 4, 2, 1);
        Cores.store(x, 1, 4);
        Cores.load(x, 5, 1);
        Cores.set(x, 6, 61);
        Cores.load(x, 7, 6);
        Cores.add(x, 0, 7, 5, 0);
        Cores.branch(x, 0, -1);
        Cores.set(x, 1, 99);
        Cores.stop(x);
        x.run(200);
        int product = Integer.MAX_VALUE * -3;
        int[] due = {2 * product, -3, Integer.MAX_VALUE, Integer.MIN_VALUE + 1, product, product, 61, product};
        for (int r = 0; r < 8; r++) {
            CHECK.due("register " + r, x.register(r), due[r]);
        }
        CHECK.due("memory at -3 modulo 64", x.memory(61), product);
        CHECK.due("a branch to -1 goes to the last word", x.committed(x.count(1) - 1, 0), 11);
        CHECK.due("the word before it is passed over", x.count(1), 11);
    }

    private static void handedForward() {
        StageCycles x = Cores.core(5, 1, 2, 2, 1, 1);
        Cores.set(x, 1, 7);
        Cores.add(x, 2, 1, 1, 1);
        Cores.stop(x);
        Cores.dueCycles(CHECK, "FA 2", x, "4: 0 . . . .", "4: 1 0 . . .", "4: 2 1 0 . .", "4: . 2 1 0 .",
                "4: . . 2 1 0", "0: . . . 2 1", "0: . . . . 2", "0: . . . . .");
        CHECK.due("FA 2", Cores.journal(x), "0@6=7 1@7=15 2@8=0");
        StageCycles y = Cores.core(5, 1, 3, 1, 1, 1);
        Cores.set(y, 1, 7);
        Cores.add(y, 2, 0, 1, 1);
        Cores.stop(y);
        Cores.dueCycles(CHECK, "FA 3", y, "4: 0 . . . .", "4: 1 0 . . .", "4: 2 1 0 . .", "2: 2 1 . 0 .",
                "4: . 2 1 . 0", "0: . . 2 1 .");
        StageCycles z = Cores.core(5, 1, 4, 1, 1, 1);
        Cores.set(z, 1, 7);
        Cores.add(z, 2, 1, 0, 1);
        Cores.stop(z);
        Cores.dueCycles(CHECK, "FA 4", z, "4: 0 . . . .", "4: 1 0 . . .", "4: 2 1 0 . .", "2: 2 1 . 0 .",
                "2: 2 1 . . 0", "0: . 2 1 . .");
    }

    private static void waitsWithoutForwarding() {
        StageCycles x = Cores.core(5, 1, 1, 1, 1, 1);
        x.set(false, 0);
        Cores.set(x, 1, 7);
        Cores.add(x, 2, 1, 1, 1);
        Cores.stop(x);
        Cores.dueCycles(CHECK, "off", x, "4: 0 . . . .", "4: 1 0 . . .", "4: 2 1 0 . .", "2: 2 1 . 0 .",
                "2: 2 1 . . 0", "0: . 2 1 . .", "4: . . 2 1 .", "4: . . . 2 1", "0: . . . . 2", "0: . . . . .");
        CHECK.due("off", Cores.journal(x), "0@6=7 1@9=15 2@10=0");
        CHECK.due("off", Cores.causes(x), "3 0 2 0 5");
    }

    private static void waitsForLoad() {
        StageCycles x = Cores.core(5, 1, 1, 3, 1, 1);
        Cores.load(x, 1, 0);
        Cores.add(x, 2, 1, 1, 1);
        Cores.add(x, 3, 2, 2, 1);
        Cores.stop(x);
        Cores.dueCycles(CHECK, "FL 3, FA 1", x, "4: 0 . . . .", "4: 1 0 . . .", "4: 2 1 0 . .", "2: 2 1 . 0 .",
                "4: 3 2 1 . 0", "0: . 3 2 1 .", "4: . . 3 2 1");
        StageCycles y = Cores.core(5, 1, 3, 1, 1, 1);
        Cores.load(y, 1, 0);
        Cores.add(y, 2, 1, 1, 1);
        Cores.add(y, 3, 2, 2, 1);
        Cores.stop(y);
        Cores.dueCycles(CHECK, "FL 1, FA 3", y, "4: 0 . . . .", "4: 1 0 . . .", "4: 2 1 0 . .", "4: 3 2 1 0 .",
                "2: 3 2 . 1 0", "0: . 3 2 . 1");
    }

    /** The LOAD is older and not there yet; the SET behind it writes the same register, and is there. */
    private static void newestWriterCounts() {
        StageCycles x = Cores.core(6, 1, 1, 5, 1, 1);
        Cores.load(x, 1, 0);
        Cores.set(x, 1, 4);
        Cores.add(x, 2, 1, 1, 0);
        Cores.stop(x);
        Cores.dueCycles(CHECK, "the newest is there", x, "4: 0 . . . . .", "4: 1 0 . . . .", "4: 2 1 0 . . .",
                "4: 3 2 1 0 . .", "4: . 3 2 1 0 .");
        StageCycles y = Cores.core(6, 1, 1, 5, 1, 1);
        Cores.set(y, 1, 4);
        Cores.load(y, 1, 0);
        Cores.add(y, 2, 1, 1, 0);
        Cores.stop(y);
        Cores.dueCycles(CHECK, "the newest is not there", y, "4: 0 . . . . .", "4: 1 0 . . . .", "4: 2 1 0 . . .",
                "4: 3 2 1 0 . .", "2: 3 2 . 1 0 .", "2: 3 2 . . 1 0", "0: 3 2 . . . 1", "0: . 3 2 . . .");
    }

    /** Behind a writer of register 1 that is there only when it has left: which kinds wait, and for a or b. */
    private static void whatIsRead() {
        boolean[] readsA = {true, true, true, true, true, false, false, false};
        boolean[] readsB = {true, false, true, true, false, false, false, false};
        boolean[] writes = {true, true, false, true, false, false, false, true};
        for (int kind = 0; kind < 8; kind++) {
            CHECK.due("kind " + kind + " waits for a", waits(7, kind, 2, 1, 2), readsA[kind] ? 1 : 0);
            CHECK.due("kind " + kind + " waits for b", waits(7, kind, 2, 2, 1), readsB[kind] ? 1 : 0);
            CHECK.due("kind " + kind + " waits for d", waits(7, kind, 1, 2, 2), 0);
            CHECK.due("kind " + kind + " waits for neither", waits(7, kind, 2, 2, 2), 0);
            if (kind != 5 && kind != 6) {
                CHECK.due("kind " + kind + " writes", waits(kind, 0, 3, 1, 2), writes[kind] ? 1 : 0);
            }
        }
    }

    private static int waits(int writer, int kind, int d, int a, int b) {
        StageCycles x = Cores.core(4, 1, 3, 3, 3, 1);
        x.word(writer, 1, 0, 0, 0);
        x.word(kind, d, a, b, 0);
        Cores.set(x, 7, 7);
        x.run(4);
        return x.cause(2);
    }

    private static void mulWorks() {
        StageCycles x = Cores.core(4, 1, 1, 3, 1, 3);
        Cores.load(x, 1, 0);
        Cores.mul(x, 2, 1, 1);
        Cores.mul(x, 3, 2, 2);
        Cores.stop(x);
        Cores.dueCycles(CHECK, "M 3", x, "4: 0 . . .", "4: 1 0 . .", "4: 2 1 0 .", "2: 2 1 . 0", "0: 2 1 . .",
                "3: 2 1 . .", "4: 3 2 1 .", "3: 3 2 . 1", "0: 3 2 . .", "4: . 3 2 .", "4: . . 3 2", "0: . . . 3",
                "0: . . . .");
        CHECK.due("M 3", Cores.causes(x), "4 0 1 2 6");
        for (int m = 1; m <= 8; m++) {
            StageCycles y = Cores.core(3, 1, 1, 1, 1, m);
            Cores.mul(y, 1, 1, 1);
            Cores.stop(y);
            CHECK.due("cycles with M " + m, y.run(100), 4 + m);
            CHECK.due("working cycles with M " + m, y.cause(3), m - 1);
        }
    }

    private static void mulWorksWhileOthersGoOn() {
        StageCycles x = Cores.core(7, 1, 1, 1, 1, 4);
        Cores.set(x, 1, 3);
        Cores.set(x, 2, 5);
        Cores.mul(x, 3, 1, 2);
        Cores.mul(x, 3, 3, 3);
        Cores.dueCycles(CHECK, "M 4", x, "4: 0 . . . . . .", "4: 1 0 . . . . .", "4: 2 1 0 . . . .",
                "4: 3 2 1 0 . . .", "3: 3 2 . 1 0 . .", "3: 3 2 . . 1 0 .", "3: 3 2 . . . 1 0", "0: 0 3 2 . . . 1",
                "0: 0 3 . 2 . . .", "3: 0 3 . . 2 . .", "3: 0 3 . . . 2 .", "4: 1 0 3 . . . 2", "0: 2 1 0 3 . . .");
        CHECK.due("M 4", Cores.journal(x), "0@8=3 1@9=5 2@13=15");
    }

    private static void branchKnownInReading() {
        StageCycles x = Cores.core(5, 2, 2, 2, 2, 1);
        Cores.set(x, 1, 1);
        Cores.branch(x, 1, 4);
        Cores.set(x, 2, 2);
        Cores.set(x, 3, 3);
        Cores.stop(x);
        Cores.dueCycles(CHECK, "B 2", x, "4: 0 . . . .", "4: 1 0 . . .", "4: 2* 1 0 . .", "4: 3* 2* 1 0 .",
                "4: . . . 1 0", "0: 4 . . . 1", "0: . 4 . . .", "4: . . 4 . .");
        CHECK.due("squashed", x.count(3), 2);
        CHECK.due("fetched", x.count(2), 5);
        CHECK.due("went", x.count(13), 1);
    }

    private static void branchKnownMidway() {
        StageCycles x = Cores.core(6, 1, 1, 1, 3, 1);
        Cores.set(x, 1, 1);
        Cores.branch(x, 1, 5);
        Cores.set(x, 2, 2);
        Cores.set(x, 3, 3);
        Cores.set(x, 4, 4);
        Cores.stop(x);
        Cores.dueCycles(CHECK, "B 3", x, "4: 0 . . . . .", "4: 1 0 . . . .", "4: 2* 1 0 . . .", "4: 3* 2* 1 0 . .",
                "4: 4* 3* 2* 1 0 .", "4: . . . . 1 0", "0: 5 . . . . 1", "0: . 5 . . . .");
        CHECK.due("squashed", x.count(3), 3);
    }

    private static void branchKnownAtTheEnd() {
        StageCycles x = Cores.core(4, 1, 1, 1, 3, 1);
        Cores.branch(x, 0, 0);
        Cores.set(x, 1, 1);
        Cores.branch(x, 1, 1);
        Cores.set(x, 2, 2);
        Cores.dueCycles(CHECK, "B 3 of 4", x, "4: 0 . . .", "4: 1 0 . .", "4: 2 1 0 .", "4: 3* 2 1 0",
                "0: 0* 3* 2 1", "0: 1* 0* 3* 2", "0: . . . .", "4: 1 . . .", "4: 2 1 . .");
        CHECK.due("squashed", x.count(3), 3);
        CHECK.due("fetched", x.count(2), 8);
        CHECK.due("went", x.count(13), 1);
        CHECK.due("journal", Cores.journal(x), "0@5=0 1@6=1 2@7=0");
    }

    private static void branchToTheNextWord() {
        StageCycles x = Cores.core(4, 1, 1, 1, 2, 1);
        Cores.set(x, 1, 1);
        Cores.branch(x, 1, 2);
        Cores.set(x, 2, 2);
        Cores.stop(x);
        Cores.dueCycles(CHECK, "to the next", x, "4: 0 . . .", "4: 1 0 . .", "4: 2* 1 0 .", "4: 3* 2* 1 0",
                "0: . . . 1", "0: 2 . . .", "4: 3 2 . .");
        CHECK.due("squashed", x.count(3), 2);
        CHECK.due("went", x.count(13), 1);
    }

    private static void branchThatDoesNotGo() {
        StageCycles x = Cores.core(4, 1, 1, 1, 2, 1);
        Cores.set(x, 1, 0);
        Cores.branch(x, 1, 0);
        Cores.set(x, 2, 2);
        Cores.stop(x);
        Cores.dueCycles(CHECK, "does not go", x, "4: 0 . . .", "4: 1 0 . .", "4: 2 1 0 .", "4: 3 2 1 0",
                "0: . 3 2 1", "0: . . 3 2", "0: . . . 3", "0: . . . .");
        CHECK.due("squashed", x.count(3), 0);
        CHECK.due("went", x.count(13), 0);
    }

    /** Astray are a STOP, a FAULT and a branch that would go: none of them does anything. */
    private static void astrayStopAndFault() {
        StageCycles x = Cores.core(8, 1, 1, 1, 6, 1);
        Cores.set(x, 1, 1);
        Cores.branch(x, 1, 6);
        Cores.stop(x);
        Cores.fault(x);
        Cores.branch(x, 1, 0);
        Cores.store(x, 1, 1);
        Cores.set(x, 1, 9);
        Cores.dueCycles(CHECK, "astray", x, "4: 0 . . . . . . .", "4: 1 0 . . . . . .", "4: 2* 1 0 . . . . .",
                "4: 3* 2* 1 0 . . . .", "4: 4* 3* 2* 1 0 . . .", "4: 5* 4* 3* 2* 1 0 . .",
                "4: 6* 5* 4* 3* 2* 1 0 .", "4: 0* 6* 5* 4* 3* 2* 1 0", "0: . . . . . . . 1", "0: 6 . . . . . . .",
                "4: 0 6 . . . . . .");
        CHECK.due("squashed", x.count(3), 6);
        CHECK.due("faults", x.count(4), 0);
        CHECK.due("STOP left", x.count(5), 0);
    }

    private static void fault() {
        StageCycles x = Cores.core(4, 2, 2, 2, 2, 1);
        x.set(true, 7);
        Cores.set(x, 1, 1);
        Cores.fault(x);
        Cores.branch(x, 1, 0);
        Cores.stop(x);
        // H is 7 modulo 4; behind the FAULT the branch is astray, and does not squash
        Cores.dueCycles(CHECK, "FAULT", x, "4: 0 . . .", "4: 1 0 . .", "4: 2* 1 0 .", "4: 3* 2* 1 0",
                "0: 0* 3* 2* 1", "1: . . . .", "4: 3 . . .", "4: . 3 . .", "4: . . 3 .", "4: . . . 3", "0: . . . .");
        CHECK.due("faults", x.count(4), 1);
        CHECK.due("squashed", x.count(3), 3);
        CHECK.due("committed", x.count(1), 2);
        CHECK.due("fetched", x.count(2), 6);
        CHECK.due("went", x.count(13), 0);
        CHECK.due("journal", Cores.journal(x), "0@5=1 3@11=0");
        CHECK.due("causes", Cores.causes(x), "2 1 0 0 8");
    }

    private static void faultBehindBranch() {
        StageCycles x = Cores.core(3, 1, 1, 1, 2, 1);
        x.set(true, 3);
        Cores.set(x, 1, 1);
        Cores.branch(x, 1, 2);
        Cores.fault(x);
        Cores.stop(x);
        Cores.dueCycles(CHECK, "both", x, "4: 0 . .", "4: 1 0 .", "4: 2* 1 0", "0: 3* 2* 1", "0: . . .", "4: 2 . .",
                "4: 3* 2 .", "4: 0* 3* 2", "1: . . .", "4: 3 . .", "4: . 3 .", "4: . . 3", "0: . . .");
        CHECK.due("squashed", x.count(3), 4);
    }

    private static void wrapsAround() {
        StageCycles x = Cores.core(3, 1, 1, 1, 1, 1);
        Cores.add(x, 1, 1, 2, 1);
        Cores.add(x, 2, 1, 2, 1);
        x.run(2000);
        CHECK.due("register 1 of a loop", x.count(1), 1997);
        int one = 0;
        int two = 0;
        for (int i = 0; i < 1997; i++) {
            one = i % 2 == 0 ? one + two + 1 : one;
            two = i % 2 == 1 ? one + two + 1 : two;
        }
        CHECK.due("register 1", x.register(1), one);
        CHECK.due("register 2", x.register(2), two);
    }
}
