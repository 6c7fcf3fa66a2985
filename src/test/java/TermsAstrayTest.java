/** Terms: on the way and astray. */
public final class TermsAstrayTest {
    private static final Check CHECK = new Check();

    public static void main(String[] args) {
        CHECK.sentence("ON THE WAY are words that a plain run would do", TermsAstrayTest::onTheWay);
        CHECK.sentence("fetched behind a BRANCH that goes", TermsAstrayTest::behindABranchThatGoes);
        CHECK.sentence("(also to the next word)", TermsAstrayTest::toTheNextWord);
        CHECK.sentence("also to itself, back and around", TermsAstrayTest::toItselfBackAndAround);
        CHECK.sentence("until it is known", TermsAstrayTest::untilItIsKnown);
        CHECK.sentence("and behind a FAULT", TermsAstrayTest::behindAFault);
        CHECK.sentence("a BRANCH that does not go", TermsAstrayTest::branchThatDoesNotGo);
        CHECK.sentence("a BRANCH that is astray", TermsAstrayTest::astrayBranch);
        CHECK.sentence("a FAULT and a STOP that are astray", TermsAstrayTest::astrayFaultAndStop);
        CHECK.sentence("what is astray is never done", TermsAstrayTest::astrayIsNeverDone);
        CHECK.end();
    }

    private static void onTheWay() {
        StageCycles x = Cores.core(5, 1, 1, 1, 4, 1);
        x.word(0, 1, 0, 0, 0);
        x.word(1, 2, 0, 0, 0);
        x.word(2, 0, 0, 0, 0);
        x.word(3, 4, 0, 0, 0);
        x.word(4, 0, 0, 0, 9);
        x.word(7, 5, 0, 0, 5);
        x.word(6, 0, 0, 0, 0);
        for (int cycle = 1; cycle <= 12; cycle++) {
            x.run(1);
            for (int s = 0; s < 5; s++) {
                boolean there = x.stage(s, 0) != StageCycles.NONE;
                CHECK.due("cycle " + cycle + ", stage " + s, x.stage(s, 1), there ? 1 : 0);
            }
        }
        CHECK.due("committed", x.count(1), 7);
    }

    private static void behindABranchThatGoes() {
        StageCycles x = Cores.core(4, 1, 1, 1, 2, 1);
        Cores.set(x, 1, 1);
        Cores.branch(x, 1, 5);
        Cores.fill(x, 4);
        Cores.dueCycles(CHECK, "a branch that goes", x, "4: 0 . . .", "4: 1 0 . .", "4: 2* 1 0 .", "4: 3* 2* 1 0",
                "0: . . . 1", "0: 5 . . .", "4: 0 5 . .");
    }

    private static void toTheNextWord() {
        StageCycles x = Cores.core(4, 1, 1, 1, 2, 1);
        Cores.set(x, 1, 1);
        Cores.branch(x, 1, 2);
        Cores.set(x, 2, 2);
        Cores.stop(x);
        Cores.dueCycles(CHECK, "to the next", x, "4: 0 . . .", "4: 1 0 . .", "4: 2* 1 0 .", "4: 3* 2* 1 0",
                "0: . . . 1", "0: 2 . . .", "4: 3 2 . .");
        CHECK.due("squashed", x.count(3), 2);
        CHECK.due("went", x.count(13), 1);
        // the next one behind the last is word 0
        StageCycles y = Cores.core(3, 1, 1, 1, 2, 1);
        Cores.set(y, 1, 1);
        Cores.branch(y, 1, 2);
        Cores.dueCycles(CHECK, "to the next, around", y, "4: 0 . .", "4: 1 0 .", "4: 0* 1 0", "0: 1* 0* 1", "0: . . .",
                "4: 0 . .", "4: 1 0 .", "4: 0* 1 0");
    }

    private static void toItselfBackAndAround() {
        StageCycles x = Cores.core(3, 1, 1, 1, 1, 1);
        Cores.set(x, 1, 1);
        Cores.branch(x, 1, 1);
        Cores.fill(x, 1);
        Cores.dueCycles(CHECK, "to itself", x, "4: 0 . .", "4: 1 0 .", "4: 2* 1 0", "0: . . 1", "0: 1 . .", "4: 2* 1 .",
                "4: . . 1", "0: 1 . .");
        CHECK.due("to itself, went", x.count(13), 2);
        StageCycles y = Cores.core(3, 1, 1, 1, 1, 1);
        Cores.set(y, 1, 1);
        Cores.fill(y, 1);
        Cores.branch(y, 1, -3);
        Cores.dueCycles(CHECK, "back to 0", y, "4: 0 . .", "4: 1 0 .", "4: 2 1 0", "0: 0* 2 1", "0: . . 2", "0: 0 . .",
                "4: 1 0 .");
    }

    /** The same words are astray as long as the branch is below or in B, and on the way when it went on. */
    private static void untilItIsKnown() {
        for (int b = 1; b < 8; b++) {
            StageCycles x = Cores.core(8, 1, 1, 1, b, 1);
            Cores.set(x, 1, 1);
            Cores.branch(x, 1, 2);
            Cores.fill(x, 20);
            for (int cycle = 3; cycle < 3 + b; cycle++) {
                x.run(cycle == 3 ? 3 : 1);
                CHECK.due("B " + b + ", fetched in cycle " + cycle, Cores.picture(x).split(" ")[0], cycle - 1 + "*");
            }
            CHECK.due("B " + b + ", run(2)", x.run(2), 2);
            for (int i = 0; i < 9; i++) {
                CHECK.due("B " + b + ", fetched when it is known", Cores.picture(x).split(" ")[0], "" + (2 + i));
                x.run(1);
            }
        }
    }

    private static void behindAFault() {
        StageCycles x = Cores.core(4, 2, 2, 2, 2, 1);
        x.set(true, 0);
        Cores.set(x, 1, 1);
        Cores.fault(x);
        Cores.fill(x, 3);
        Cores.dueCycles(CHECK, "FAULT", x, "4: 0 . . .", "4: 1 0 . .", "4: 2* 1 0 .", "4: 3* 2* 1 0", "0: 4* 3* 2* 1",
                "1: . . . .", "4: 0 . . .", "4: 1 0 . .", "4: 2* 1 0 .");
        // H is the word behind the FAULT: astray at first, on the way then
        StageCycles y = Cores.core(3, 1, 1, 1, 1, 1);
        y.set(true, 1);
        Cores.fault(y);
        Cores.fill(y, 2);
        Cores.dueCycles(CHECK, "H behind it", y, "4: 0 . .", "4: 1* 0 .", "4: 2* 1* 0", "1: . . .", "4: 1 . .",
                "4: 2 1 .", "4: 0 2 1", "0: 1* 0 2");
    }

    private static void branchThatDoesNotGo() {
        StageCycles x = Cores.core(4, 1, 1, 1, 2, 1);
        Cores.set(x, 1, 0);
        Cores.branch(x, 1, 0);
        Cores.set(x, 2, 2);
        Cores.stop(x);
        Cores.dueCycles(CHECK, "does not go", x, "4: 0 . . .", "4: 1 0 . .", "4: 2 1 0 .", "4: 3 2 1 0",
                "0: . 3 2 1", "0: . . 3 2", "0: . . . 3", "0: . . . .");
        CHECK.due("squashed", x.count(3), 0);
        CHECK.due("went", x.count(13), 0);
    }

    /** Behind the branch that goes there is one that would, and would be known while the first one is not. */
    private static void astrayBranch() {
        StageCycles x = Cores.core(8, 1, 1, 1, 5, 1);
        Cores.set(x, 1, 1);
        Cores.branch(x, 1, 9);
        Cores.branch(x, 1, 0);
        Cores.branch(x, 1, 3);
        Cores.fill(x, 6);
        Cores.dueCycles(CHECK, "astray branches", x, "4: 0 . . . . . . .", "4: 1 0 . . . . . .",
                "4: 2* 1 0 . . . . .", "4: 3* 2* 1 0 . . . .", "4: 4* 3* 2* 1 0 . . .", "4: 5* 4* 3* 2* 1 0 . .",
                "4: 6* 5* 4* 3* 2* 1 0 .", "4: . . . . . . 1 0", "0: 9 . . . . . . 1");
        CHECK.due("went", x.count(13), 1);
        CHECK.due("squashed", x.count(3), 5);
        // behind a FAULT the branch reaches B, and goes on from it, before the FAULT leaves
        StageCycles y = Cores.core(5, 1, 1, 1, 1, 1);
        y.set(true, 3);
        Cores.set(y, 1, 1);
        Cores.fault(y);
        Cores.branch(y, 1, 0);
        Cores.fill(y, 3);
        Cores.dueCycles(CHECK, "a branch behind a FAULT", y, "4: 0 . . . .", "4: 1 0 . . .", "4: 2* 1 0 . .",
                "4: 3* 2* 1 0 .", "4: 4* 3* 2* 1 0", "0: 5* 4* 3* 2* 1", "1: . . . . .", "4: 3 . . . .");
        CHECK.due("went", y.count(13), 0);
        CHECK.due("squashed", y.count(3), 4);
    }

    private static void astrayFaultAndStop() {
        StageCycles x = Cores.core(8, 1, 1, 1, 6, 1);
        Cores.set(x, 1, 1);
        Cores.branch(x, 1, 6);
        Cores.stop(x);
        Cores.fault(x);
        Cores.branch(x, 1, 0);
        Cores.store(x, 1, 1);
        Cores.set(x, 1, 9);
        Cores.dueCycles(CHECK, "astray", x, "4: 0 . . . . . . .", "4: 1 0 . . . . . .", "4: 2* 1 0 . . . . .",
                "4: 3* 2* 1 0 . . . .", "4: 4* 3* 2* 1 0 . . .", "4: 5* 4* 3* 2* 1 0 . .",
                "4: 6* 5* 4* 3* 2* 1 0 .", "4: 0* 6* 5* 4* 3* 2* 1 0", "0: . . . . . . . 1", "0: 6 . . . . . . .",
                "4: 0 6 . . . . . .");
        CHECK.due("squashed", x.count(3), 6);
        CHECK.due("faults", x.count(4), 0);
        CHECK.due("STOP left", x.count(5), 0);
    }

    /** Had the words astray been done, registers 2 and 3, memory at 1 and the second branch would show it. */
    private static void astrayIsNeverDone() {
        for (int b = 1; b < 7; b++) {
            StageCycles x = Cores.core(7, 1, 1, 1, b, 1);
            Cores.set(x, 1, 1);
            Cores.branch(x, 1, 6);
            Cores.set(x, 2, 9);
            Cores.store(x, 1, 1);
            Cores.load(x, 3, 1);
            Cores.mul(x, 1, 2, 2);
            Cores.load(x, 4, 1);
            Cores.branch(x, 4, 0);
            Cores.branch(x, 2, 0);
            Cores.stop(x);
            x.run(100);
            CHECK.due("B " + b + ", committed", Cores.journal(x).replaceAll("@[0-9]*", ""),
                    "0=1 1=0 6=0 7=0 8=0 9=0");
            CHECK.due("B " + b + ", registers", x.register(1) + " " + x.register(2) + " " + x.register(3), "1 0 0");
            CHECK.due("B " + b + ", memory(1)", x.memory(1), 0);
        }
    }
}
