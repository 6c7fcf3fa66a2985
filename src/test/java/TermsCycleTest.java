/** Terms: the three steps of a cycle. */
public final class TermsCycleTest {
    private static final Check CHECK = new Check();

    public static void main(String[] args) {
        CHECK.sentence("A CYCLE (numbered from 1)", TermsCycleTest::numberedFrom1);
        CHECK.sentence("The word in stage N - 1 leaves", TermsCycleTest::leaves);
        CHECK.sentence("A FAULT squashes all stages", TermsCycleTest::faultSquashesAll);
        CHECK.sentence("nothing is fetched in this cycle; fetching goes on at H in the next one",
                TermsCycleTest::fetchingAfterAFault);
        CHECK.sentence("A STOP ends all (nothing more is done in this cycle, nor ever)", TermsCycleTest::stopEndsAll);
        CHECK.sentence("Others (and STOP) are COMMITTED", TermsCycleTest::othersAreCommitted);
        CHECK.sentence("goes on to the next stage, if that is empty now", TermsCycleTest::ifThatIsEmpty);
        CHECK.sentence("(in R) it has worked all its cycles", TermsCycleTest::hasWorkedAll);
        CHECK.sentence("in each cycle in which it is there at the beginning", TermsCycleTest::thereAtTheBeginning);
        CHECK.sentence("from the first one on in which its operands are READY", TermsCycleTest::fromReadyOn);
        CHECK.sentence("for each register read", TermsCycleTest::eachRegisterRead);
        CHECK.sentence("the newest of the words .. that writes it", TermsCycleTest::newestWriter);
        CHECK.sentence("in stages behind R (as they are now)", TermsCycleTest::asTheyAreNow);
        CHECK.sentence("none is there", TermsCycleTest::noneIsThere);
        CHECK.sentence("handing forward is on, and it is in a stage beyond FA", TermsCycleTest::beyondAlu);
        CHECK.sentence("(FL of a LOAD)", TermsCycleTest::beyondLoad);
        CHECK.sentence("Once it has begun to work it need not ask again", TermsCycleTest::onceItHasBegun);
        CHECK.sentence("A BRANCH on the way that goes on from stage B", TermsCycleTest::branchGoesOnFromB);
        CHECK.sentence("(or leaves, if B is N - 1)", TermsCycleTest::branchLeaves);
        CHECK.sentence("all words in stages below where it was are squashed", TermsCycleTest::squashedBelow);
        CHECK.sentence("nothing is fetched in this cycle; fetching goes on there in the next one",
                TermsCycleTest::fetchingAfterABranch);
        CHECK.sentence("If stage 0 is empty", TermsCycleTest::stage0);
        CHECK.sentence("and no STOP was fetched on the way", TermsCycleTest::nothingBehindAStop);
        CHECK.sentence("the next one is the one behind it, by number", TermsCycleTest::byNumber);
        CHECK.sentence("(Behind a STOP that is astray fetching goes on.)", TermsCycleTest::behindAnAstrayStop);
        CHECK.end();
    }

    private static void numberedFrom1() {
        for (int n = 3; n <= 8; n++) {
            StageCycles x = Cores.core(n, 1, 1, 1, 1, 1);
            Cores.fill(x, 3);
            x.run(n + 1);
            CHECK.due("N " + n + ", a word fetched in cycle 1 is committed in", x.committed(0, 1), n + 1);
            x.clear();
            Cores.fill(x, 3);
            x.run(n + 1);
            CHECK.due("N " + n + ", and so it is behind clear()", x.committed(0, 1), n + 1);
        }
    }

    private static void leaves() {
        for (int n = 3; n <= 8; n++) {
            StageCycles x = Cores.core(n, 1, 1, 1, 1, 1);
            Cores.fill(x, 20);
            for (int cycle = 1; cycle <= n + 5; cycle++) {
                x.run(1);
                CHECK.due("N " + n + ", cycle " + cycle + ", stage N - 1", x.stage(n - 1, 0), Math.max(-1, cycle - n));
                CHECK.due("N " + n + ", cycle " + cycle + ", committed", x.count(1), Math.max(0, cycle - n));
            }
        }
    }

    private static void faultSquashesAll() {
        for (int n = 3; n <= 8; n++) {
            StageCycles x = Cores.core(n, 1, 1, 1, 1, 1);
            Cores.fault(x);
            Cores.fill(x, 20);
            x.run(n);
            for (int s = 0; s < n; s++) {
                CHECK.due("N " + n + ", all stages are full, stage " + s, x.stage(s, 0), n - 1 - s);
            }
            CHECK.due("N " + n + ", squashed before", x.count(3), 0);
            x.run(1);
            CHECK.due("N " + n + ", stages", Cores.picture(x), Cores.empty(n));
            CHECK.due("N " + n + ", squashed", x.count(3), n - 1);
            CHECK.due("N " + n + ", faults", x.count(4), 1);
            waitingAndWorkingAreSquashed(n);
        }
    }

    /** A word that waits in R is squashed, too, and leaves no trace for the next one there. */
    private static void waitingAndWorkingAreSquashed(int n) {
        StageCycles x = Cores.core(n, 1, 1, 1, 1, 8);
        x.set(true, 2);
        Cores.fault(x);
        Cores.mul(x, 1, 1, 1);
        Cores.mul(x, 2, 2, 2);
        Cores.stop(x);
        x.run(n);
        CHECK.due("N " + n + ", a MUL in R", x.stage(1, 0), 1);
        x.run(1);
        CHECK.due("N " + n + ", squashed", x.count(3), 2);
        // the second MUL is fetched in cycle n + 2, gets into R in n + 3, and works from n + 4 to n + 11
        x.run(9);
        CHECK.due("N " + n + ", the second MUL works", x.stage(1, 0), 2);
        x.run(1);
        CHECK.due("N " + n + ", the second MUL goes on", x.stage(2, 0), 2);
    }

    private static void fetchingAfterAFault() {
        for (int n = 3; n <= 8; n++) {
            StageCycles x = Cores.core(n, 1, 1, 1, 1, 1);
            x.set(true, 1);
            Cores.fault(x);
            Cores.fill(x, 20);
            x.run(n);
            CHECK.due("N " + n + ", fetched before the FAULT leaves", x.count(2), n);
            x.run(1);
            CHECK.due("N " + n + ", fetched as it leaves", x.count(2), n);
            CHECK.due("N " + n + ", stage 0", x.stage(0, 0), -1);
            x.run(1);
            CHECK.due("N " + n + ", fetched behind that", x.count(2), n + 1);
            CHECK.due("N " + n + ", stage 0", x.stage(0, 0) + " " + x.stage(0, 1), "1 1");
        }
        aFaultForEver();
    }

    /** One word alone, a FAULT, with H any: it comes again and again. */
    private static void aFaultForEver() {
        for (int h : new int[] {0, 1, 63}) {
            StageCycles x = Cores.core(4, 2, 2, 2, 2, 1);
            x.set(true, h);
            Cores.fault(x);
            Cores.dueCycles(CHECK, "FAULT alone", x, "4: 0 . . .", "4: 0* 0 . .", "4: 0* 0* 0 .", "4: 0* 0* 0* 0",
                    "1: . . . .", "4: 0 . . .");
            CHECK.due("run(1999)", x.run(1999), 1999);
            CHECK.due("faults", x.count(4), 401);
            CHECK.due("committed", x.count(1), 0);
            CHECK.due("squashed", x.count(3), 401 * 3);
            CHECK.due("fetched", x.count(2), 401 * 4);
        }
    }

    private static void stopEndsAll() {
        StageCycles x = Cores.core(4, 1, 1, 1, 1, 1);
        Cores.set(x, 1, 3);
        Cores.store(x, 1, 1);
        Cores.stop(x);
        Cores.fill(x, 3);
        CHECK.due("run", x.run(2000), 7);
        String all = Cores.all(x);
        CHECK.due("STOP left", x.count(5), 1);
        CHECK.due("stages", Cores.picture(x), ". . . .");
        for (int n : new int[] {1, 2, 1999, 2000}) {
            CHECK.due("run(" + n + ") then", x.run(n), 0);
        }
        CHECK.due("all that shows", Cores.all(x), all);
        CHECK.due("clear", x.clear(), 7);
        Cores.fill(x, 1);
        CHECK.due("run behind clear()", x.run(2000), 2000);
    }

    private static void othersAreCommitted() {
        StageCycles x = Cores.core(3, 1, 1, 1, 1, 1);
        x.set(true, 7);
        for (int kind = 0; kind < 6; kind++) {
            x.word(kind, 1, 0, 0, 0);
        }
        Cores.fill(x, 1);
        x.word(7, 1, 0, 0, 4);
        x.word(6, 1, 0, 0, 0);
        x.run(100);
        CHECK.due("committed", Cores.journal(x).replaceAll("[@=][0-9]*", ""), "0 1 2 3 4 7 8");
        CHECK.due("committed", x.count(1), 7);
        CHECK.due("faults", x.count(4), 1);
        CHECK.due("cycles in which one was committed", x.cause(0), 7);
    }

    /** Stages below R fill up and stay as long as the word in R does; those beyond it go on. */
    private static void ifThatIsEmpty() {
        StageCycles x = Cores.core(8, 4, 7, 7, 7, 1);
        Cores.set(x, 1, 1);
        Cores.fill(x, 1);
        Cores.add(x, 2, 1, 1, 0);
        Cores.fill(x, 20);
        Cores.dueCycles(CHECK, "R 4", x, "4: 0 . . . . . . .", "4: 1 0 . . . . . .", "4: 2 1 0 . . . . .",
                "4: 3 2 1 0 . . . .", "4: 4 3 2 1 0 . . .", "4: 5 4 3 2 1 0 . .", "4: 6 5 4 3 2 1 0 .",
                "2: 6 5 4 3 2 . 1 0", "0: 7 6 5 4 3 2 . 1", "0: 8 7 6 5 4 3 2 .");
        // behind a STOP stages get empty, and what is below R goes on into them
        StageCycles y = Cores.core(6, 3, 3, 3, 3, 4);
        Cores.mul(y, 1, 1, 1);
        Cores.stop(y);
        Cores.dueCycles(CHECK, "R 3", y, "4: 0 . . . . .", "4: 1 0 . . . .", "4: . 1 0 . . .", "4: . . 1 0 . .",
                "3: . . 1 0 . .", "3: . . 1 0 . .", "3: . . 1 0 . .", "4: . . . 1 0 .", "4: . . . . 1 0",
                "0: . . . . . 1", "0: . . . . . .");
        StageCycles z = Cores.core(6, 3, 3, 3, 3, 4);
        Cores.mul(z, 1, 1, 1);
        Cores.mul(z, 1, 2, 2);
        Cores.stop(z);
        Cores.dueCycles(CHECK, "R 3", z, "4: 0 . . . . .", "4: 1 0 . . . .", "4: 2 1 0 . . .", "4: . 2 1 0 . .",
                "3: . 2 1 0 . .", "3: . 2 1 0 . .", "3: . 2 1 0 . .", "4: . . 2 1 0 .", "3: . . 2 1 . 0",
                "0: . . 2 1 . .", "3: . . 2 1 . .", "4: . . . 2 1 .");
    }

    private static void hasWorkedAll() {
        StageCycles x = Cores.core(4, 1, 1, 3, 1, 3);
        Cores.load(x, 1, 0);
        Cores.mul(x, 2, 1, 1);
        Cores.mul(x, 3, 2, 2);
        Cores.stop(x);
        Cores.dueCycles(CHECK, "M 3", x, "4: 0 . . .", "4: 1 0 . .", "4: 2 1 0 .", "2: 2 1 . 0", "0: 2 1 . .",
                "3: 2 1 . .", "4: 3 2 1 .", "3: 3 2 . 1", "0: 3 2 . .", "4: . 3 2 .", "4: . . 3 2", "0: . . . 3",
                "0: . . . .");
        CHECK.due("M 3", Cores.causes(x), "4 0 1 2 6");
    }

    /** With M 2 the cycle in which the MUL gets into R is none of its two. */
    private static void thereAtTheBeginning() {
        StageCycles x = Cores.core(3, 1, 1, 1, 1, 2);
        Cores.mul(x, 1, 0, 0);
        Cores.stop(x);
        Cores.dueCycles(CHECK, "M 2", x, "4: 0 . .", "4: 1 0 .", "3: 1 0 .", "4: . 1 0", "0: . . 1", "0: . . .");
    }

    /** It works in the first cycle in which it is ready: M 1 goes on in that one, M 2 in the next. */
    private static void fromReadyOn() {
        for (int m = 1; m <= 8; m++) {
            StageCycles x = Cores.core(5, 1, 4, 4, 1, m);
            Cores.set(x, 1, 3);
            Cores.mul(x, 2, 1, 1);
            Cores.stop(x);
            // the MUL is in R from cycle 3 on, and waits in 4 and 5; the SET leaves in 6
            x.run(5);
            CHECK.due("M " + m + ", waiting cycles", x.cause(2), 2);
            for (int worked = 1; worked < m; worked++) {
                x.run(1);
                CHECK.due("M " + m + ", the MUL worked " + worked, x.stage(1, 0), 1);
            }
            x.run(1);
            CHECK.due("M " + m + ", the MUL worked all its cycles", x.stage(2, 0), 1);
            CHECK.due("M " + m + ", waiting cycles", x.cause(2), 2);
        }
    }

    private static void eachRegisterRead() {
        for (int kind : new int[] {0, 2, 3}) {
            for (int a = 1; a <= 3; a++) {
                for (int b = 1; b <= 3; b++) {
                    StageCycles x = Cores.core(6, 1, 1, 5, 1, 1);
                    Cores.set(x, 2, 2);
                    Cores.load(x, 1, 0);
                    x.word(kind, 4, a, b, 0);
                    Cores.stop(x);
                    x.run(100);
                    // the SET's result is there at once, the LOAD's when it has left, two cycles later
                    CHECK.due("kind " + kind + ", a " + a + ", b " + b, x.count(0), a == 1 || b == 1 ? 13 : 10);
                }
            }
        }
    }

    /** A LOAD that is not there yet, and a SET that is, write the same register in one order and in the other. */
    private static void newestWriter() {
        StageCycles x = Cores.core(6, 1, 1, 5, 1, 1);
        Cores.load(x, 1, 0);
        Cores.set(x, 1, 4);
        Cores.add(x, 2, 1, 1, 0);
        Cores.stop(x);
        Cores.dueCycles(CHECK, "the newest is there", x, "4: 0 . . . . .", "4: 1 0 . . . .", "4: 2 1 0 . . .",
                "4: 3 2 1 0 . .", "4: . 3 2 1 0 .");
        StageCycles y = Cores.core(6, 1, 1, 5, 1, 1);
        Cores.set(y, 1, 4);
        Cores.load(y, 1, 0);
        Cores.add(y, 2, 1, 1, 0);
        Cores.stop(y);
        Cores.dueCycles(CHECK, "the newest is not there", y, "4: 0 . . . . .", "4: 1 0 . . . .", "4: 2 1 0 . . .",
                "4: 3 2 1 0 . .", "2: 3 2 . 1 0 .", "2: 3 2 . . 1 0", "0: 3 2 . . . 1", "0: . 3 2 . . .");
        // a word that writes another register, or reads this one, is between them
        StageCycles z = Cores.core(6, 1, 1, 5, 1, 1);
        Cores.load(z, 1, 0);
        Cores.store(z, 3, 3);
        Cores.set(z, 3, 1);
        Cores.add(z, 2, 1, 3, 0);
        Cores.dueCycles(CHECK, "another between", z, "4: 0 . . . . .", "4: 1 0 . . . .", "4: 2 1 0 . . .",
                "4: 3 2 1 0 . .", "4: 0 3 2 1 0 .", "2: 0 3 . 2 1 0", "0: 1 0 3 . 2 1");
    }

    /** The writer goes on before the reader asks: out of the last stage, or beyond FA, in the same cycle. */
    private static void asTheyAreNow() {
        StageCycles x = Cores.core(4, 2, 3, 3, 2, 1);
        x.set(false, 0);
        Cores.set(x, 1, 1);
        Cores.add(x, 2, 1, 1, 0);
        Cores.dueCycles(CHECK, "it leaves", x, "4: 0 . . .", "4: 1 0 . .", "4: 0 1 0 .", "4: 1 0 1 0", "0: 0 1 0 1");
        StageCycles y = Cores.core(5, 1, 2, 2, 1, 1);
        Cores.set(y, 1, 1);
        Cores.add(y, 2, 1, 1, 0);
        Cores.dueCycles(CHECK, "it goes beyond FA", y, "4: 0 . . . .", "4: 1 0 . . .", "4: 0 1 0 . .",
                "4: 1 0 1 0 .");
    }

    private static void noneIsThere() {
        StageCycles x = Cores.core(5, 1, 1, 1, 1, 1);
        x.set(false, 0);
        Cores.set(x, 1, 7);
        Cores.add(x, 2, 1, 1, 1);
        Cores.stop(x);
        Cores.dueCycles(CHECK, "off", x, "4: 0 . . . .", "4: 1 0 . . .", "4: 2 1 0 . .", "2: 2 1 . 0 .",
                "2: 2 1 . . 0", "0: . 2 1 . .", "4: . . 2 1 .", "4: . . . 2 1", "0: . . . . 2", "0: . . . . .");
        CHECK.due("off", Cores.journal(x), "0@6=7 1@9=15 2@10=0");
        CHECK.due("off", Cores.causes(x), "3 0 2 0 5");
        // words below R, and the word in R itself, do not count
        StageCycles y = Cores.core(5, 2, 4, 4, 4, 1);
        Cores.add(y, 1, 1, 1, 1);
        Cores.set(y, 1, 1);
        Cores.stop(y);
        CHECK.due("a word waits for none behind it", y.run(100), 8);
    }

    private static void beyondAlu() {
        StageCycles x = Cores.core(5, 1, 2, 2, 1, 1);
        Cores.set(x, 1, 7);
        Cores.add(x, 2, 1, 1, 1);
        Cores.stop(x);
        Cores.dueCycles(CHECK, "FA 2", x, "4: 0 . . . .", "4: 1 0 . . .", "4: 2 1 0 . .", "4: . 2 1 0 .",
                "4: . . 2 1 0", "0: . . . 2 1", "0: . . . . 2", "0: . . . . .");
        CHECK.due("FA 2", Cores.journal(x), "0@6=7 1@7=15 2@8=0");
        StageCycles y = Cores.core(5, 1, 3, 1, 1, 1);
        Cores.set(y, 1, 7);
        Cores.add(y, 2, 0, 1, 1);
        Cores.stop(y);
        Cores.dueCycles(CHECK, "FA 3", y, "4: 0 . . . .", "4: 1 0 . . .", "4: 2 1 0 . .", "2: 2 1 . 0 .",
                "4: . 2 1 . 0", "0: . . 2 1 .");
        StageCycles z = Cores.core(5, 1, 4, 1, 1, 1);
        Cores.set(z, 1, 7);
        Cores.add(z, 2, 1, 0, 1);
        Cores.stop(z);
        Cores.dueCycles(CHECK, "FA 4", z, "4: 0 . . . .", "4: 1 0 . . .", "4: 2 1 0 . .", "2: 2 1 . 0 .",
                "2: 2 1 . . 0", "0: . 2 1 . .");
    }

    private static void beyondLoad() {
        StageCycles x = Cores.core(5, 1, 1, 3, 1, 1);
        Cores.load(x, 1, 0);
        Cores.add(x, 2, 1, 1, 1);
        Cores.add(x, 3, 2, 2, 1);
        Cores.stop(x);
        Cores.dueCycles(CHECK, "FL 3, FA 1", x, "4: 0 . . . .", "4: 1 0 . . .", "4: 2 1 0 . .", "2: 2 1 . 0 .",
                "4: 3 2 1 . 0", "0: . 3 2 1 .", "4: . . 3 2 1");
        StageCycles y = Cores.core(5, 1, 3, 1, 1, 1);
        Cores.load(y, 1, 0);
        Cores.add(y, 2, 1, 1, 1);
        Cores.add(y, 3, 2, 2, 1);
        Cores.stop(y);
        Cores.dueCycles(CHECK, "FL 1, FA 3", y, "4: 0 . . . .", "4: 1 0 . . .", "4: 2 1 0 . .", "4: 3 2 1 0 .",
                "2: 3 2 . 1 0", "0: . 3 2 . 1");
    }

    /** The MUL begins with a result that is handed forward; its cycles are M, wherever the writer is then. */
    private static void onceItHasBegun() {
        for (int m = 1; m <= 8; m++) {
            StageCycles x = Cores.core(6, 1, 1, 1, 1, m);
            Cores.set(x, 1, 3);
            Cores.mul(x, 2, 1, 1);
            Cores.stop(x);
            CHECK.due("M " + m, x.run(100), 8 + m);
            CHECK.due("M " + m + ", waiting cycles", x.cause(2), 0);
            CHECK.due("M " + m + ", product", x.register(2), 9);
        }
    }

    private static void branchGoesOnFromB() {
        StageCycles x = Cores.core(6, 1, 1, 1, 3, 1);
        Cores.set(x, 1, 1);
        Cores.branch(x, 1, 5);
        Cores.set(x, 2, 2);
        Cores.set(x, 3, 3);
        Cores.set(x, 4, 4);
        Cores.stop(x);
        Cores.dueCycles(CHECK, "B 3", x, "4: 0 . . . . .", "4: 1 0 . . . .", "4: 2* 1 0 . . .", "4: 3* 2* 1 0 . .",
                "4: 4* 3* 2* 1 0 .", "4: . . . . 1 0", "0: 5 . . . . 1", "0: . 5 . . . .");
        CHECK.due("squashed", x.count(3), 3);
        waitingInB();
    }

    /** B is R, and the branch waits there: nothing is squashed before it goes on. */
    private static void waitingInB() {
        StageCycles x = Cores.core(6, 2, 5, 5, 2, 1);
        Cores.set(x, 1, 1);
        Cores.branch(x, 1, 5);
        Cores.fill(x, 4);
        Cores.dueCycles(CHECK, "B is R", x, "4: 0 . . . . .", "4: 1 0 . . . .", "4: 2* 1 0 . . .", "4: 3* 2* 1 0 . .",
                "2: 3* 2* 1 . 0 .", "2: 3* 2* 1 . . 0", "0: . . . 1 . .", "4: 5 . . . 1 .");
        CHECK.due("squashed", x.count(3), 2);
        CHECK.due("went", x.count(13), 1);
    }

    private static void branchLeaves() {
        StageCycles x = Cores.core(4, 1, 1, 1, 3, 1);
        Cores.branch(x, 0, 0);
        Cores.set(x, 1, 1);
        Cores.branch(x, 1, 1);
        Cores.set(x, 2, 2);
        Cores.dueCycles(CHECK, "B 3 of 4", x, "4: 0 . . .", "4: 1 0 . .", "4: 2 1 0 .", "4: 3* 2 1 0",
                "0: 0* 3* 2 1", "0: 1* 0* 3* 2", "0: . . . .", "4: 1 . . .", "4: 2 1 . .");
        CHECK.due("squashed", x.count(3), 3);
        CHECK.due("fetched", x.count(2), 8);
        CHECK.due("went", x.count(13), 1);
        CHECK.due("journal", Cores.journal(x), "0@5=0 1@6=1 2@7=0");
        faultBehindABranch();
    }

    private static void faultBehindABranch() {
        StageCycles x = Cores.core(3, 1, 1, 1, 2, 1);
        x.set(true, 3);
        Cores.set(x, 1, 1);
        Cores.branch(x, 1, 2);
        Cores.fault(x);
        Cores.stop(x);
        Cores.dueCycles(CHECK, "both", x, "4: 0 . .", "4: 1 0 .", "4: 2* 1 0", "0: 3* 2* 1", "0: . . .", "4: 2 . .",
                "4: 3* 2 .", "4: 0* 3* 2", "1: . . .", "4: 3 . .", "4: . 3 .", "4: . . 3", "0: . . .");
        CHECK.due("squashed", x.count(3), 4);
    }

    /** What is older than the branch stays; in the stage where it was there is nothing. */
    private static void squashedBelow() {
        StageCycles x = Cores.core(7, 1, 1, 1, 2, 1);
        Cores.fill(x, 3);
        Cores.set(x, 1, 1);
        Cores.branch(x, 1, 8);
        Cores.fill(x, 5);
        x.run(7);
        CHECK.due("before", Cores.picture(x), "6* 5* 4 3 2 1 0");
        x.run(1);
        CHECK.due("behind", Cores.picture(x), ". . . 4 3 2 1");
        CHECK.due("squashed", x.count(3), 2);
        CHECK.due("committed", x.count(1), 1);
        // the second branch is squashed as the first one goes, and squashes when it is fetched anew
        StageCycles y = Cores.core(5, 2, 2, 2, 2, 1);
        Cores.set(y, 1, 1);
        Cores.branch(y, 1, 2);
        Cores.branch(y, 1, 3);
        Cores.stop(y);
        y.run(5);
        CHECK.due("squashed by the first", y.count(3), 2);
        y.run(100);
        CHECK.due("squashed by both", y.count(3), 4);
        CHECK.due("fetched", y.count(2), 8);
    }

    private static void fetchingAfterABranch() {
        for (int b = 1; b < 6; b++) {
            StageCycles x = Cores.core(6, 1, 1, 1, b, 1);
            Cores.set(x, 1, 1);
            Cores.branch(x, 1, 11);
            Cores.fill(x, 18);
            x.run(2 + b);
            CHECK.due("B " + b + ", fetched before", x.count(2), 2 + b);
            x.run(1);
            CHECK.due("B " + b + ", fetched in the branch's cycle", x.count(2), 2 + b);
            CHECK.due("B " + b + ", stage 0", x.stage(0, 0), -1);
            x.run(1);
            CHECK.due("B " + b + ", fetched in the next one", x.count(2), 3 + b);
            CHECK.due("B " + b + ", stage 0", x.stage(0, 0) + " " + x.stage(0, 1), "11 1");
            x.run(1);
            CHECK.due("B " + b + ", stage 0 then", x.stage(0, 0) + " " + x.stage(0, 1), "12 1");
        }
    }

    private static void stage0() {
        StageCycles x = Cores.core(3, 1, 1, 1, 1, 8);
        Cores.mul(x, 1, 1, 1);
        Cores.fill(x, 5);
        x.run(2);
        for (int cycle = 3; cycle <= 9; cycle++) {
            x.run(1);
            CHECK.due("cycle " + cycle + ", stage 0 is full, fetched", x.count(2), 2);
            CHECK.due("cycle " + cycle + ", stage 0", x.stage(0, 0), 1);
        }
        x.run(1);
        CHECK.due("stage 0 is empty, fetched", x.count(2), 3);
        CHECK.due("stage 0", x.stage(0, 0), 2);
    }

    private static void nothingBehindAStop() {
        for (int at : new int[] {0, 1, 4}) {
            StageCycles x = Cores.core(5, 1, 1, 1, 1, 1);
            for (int w = 0; w < 5; w++) {
                x.word(w == at ? 6 : 7, 1, 0, 0, w);
            }
            x.run(at + 1);
            for (int i = 0; i < 5; i++) {
                CHECK.due("a STOP at " + at + ", fetched", x.count(2), at + 1);
                CHECK.due("a STOP at " + at + ", STOP left", x.count(5), 0);
                x.run(1);
            }
            CHECK.due("a STOP at " + at + ", fetched", x.count(2), at + 1);
            CHECK.due("a STOP at " + at + ", STOP left", x.count(5), 1);
        }
    }

    private static void byNumber() {
        StageCycles x = Cores.core(3, 1, 1, 1, 1, 1);
        Cores.set(x, 1, 1);
        Cores.fill(x, 2);
        Cores.branch(x, 1, 6);
        Cores.fill(x, 4);
        StringBuilder fetched = new StringBuilder();
        for (int cycle = 1; cycle <= 14; cycle++) {
            x.run(1);
            fetched.append(x.stage(0, 0)).append(' ');
        }
        CHECK.due("stage 0", fetched.toString(), "0 1 2 3 4 -1 6 7 0 1 2 3 4 -1 ");
    }

    private static void behindAnAstrayStop() {
        StageCycles x = Cores.core(5, 1, 1, 1, 4, 1);
        Cores.set(x, 1, 1);
        Cores.branch(x, 1, 4);
        Cores.stop(x);
        Cores.stop(x);
        Cores.fill(x, 2);
        Cores.dueCycles(CHECK, "behind a branch", x, "4: 0 . . . .", "4: 1 0 . . .", "4: 2* 1 0 . .", "4: 3* 2* 1 0 .",
                "4: 4* 3* 2* 1 0", "0: 5* 4* 3* 2* 1", "0: . . . . .", "4: 4 . . . .", "4: 5 4 . . .", "4: 0 5 4 . .");
        StageCycles y = Cores.core(4, 1, 1, 1, 1, 1);
        y.set(true, 2);
        Cores.fault(y);
        Cores.stop(y);
        Cores.fill(y, 3);
        Cores.dueCycles(CHECK, "behind a FAULT", y, "4: 0 . . .", "4: 1* 0 . .", "4: 2* 1* 0 .", "4: 3* 2* 1* 0",
                "1: . . . .", "4: 2 . . .", "4: 3 2 . .");
        // and once the branch is known the same STOP is fetched on the way, and ends all
        StageCycles z = Cores.core(4, 1, 1, 1, 2, 1);
        Cores.set(z, 1, 1);
        Cores.branch(z, 1, 2);
        Cores.stop(z);
        Cores.dueCycles(CHECK, "the same STOP", z, "4: 0 . . .", "4: 1 0 . .", "4: 2* 1 0 .", "4: 0* 2* 1 0",
                "0: . . . 1", "0: 2 . . .", "4: . 2 . .", "4: . . 2 .", "4: . . . 2", "0: . . . .");
        CHECK.due("STOP left", z.count(5), 1);
    }
}
