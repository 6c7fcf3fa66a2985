/** Promise 6: stage. */
public final class StageTest {
    private static final Check CHECK = new Check();
    private static final Class<IndexOutOfBoundsException> INDEX = IndexOutOfBoundsException.class;

    public static void main(String[] args) {
        CHECK.sentence("Of a stage the word in it (what 0; NONE)", StageTest::theWordInIt);
        CHECK.sentence("whether it is on the way (1; 0 without)", StageTest::whetherOnTheWay);
        CHECK.sentence("IndexOutOfBoundsException, when there is no such stage", StageTest::noSuchStage);
        CHECK.sentence("IndexOutOfBoundsException, when there is no such .. what", StageTest::noSuchWhat);
        CHECK.end();
    }

    private static void theWordInIt() {
        StageCycles x = branching();
        dueAll(x, 0, -1, -1, -1, -1, -1);
        x.run(1);
        // word 0 is no NONE, and no word is no word 0
        dueAll(x, 0, 0, -1, -1, -1, -1);
        x.run(3);
        dueAll(x, 0, 0, 2, 1, 0, -1);
        x.run(1);
        dueAll(x, 0, 1, 0, 2, 1, 0);
        x.run(1);
        dueAll(x, 0, 2, 1, 0, 2, 1);
        x.run(1);
        dueAll(x, 0, -1, -1, -1, -1, -1);
        StageCycles y = Cores.core(3, 1, 1, 1, 1, 1);
        Cores.fill(y, 64);
        y.run(64);
        dueAll(y, 0, 63, 62, 61);
        y.clear();
        dueAll(y, 0, -1, -1, -1);
    }

    private static void whetherOnTheWay() {
        StageCycles x = branching();
        dueAll(x, 1, 0, 0, 0, 0, 0);
        x.run(1);
        dueAll(x, 1, 1, 0, 0, 0, 0);
        x.run(3);
        dueAll(x, 1, 0, 0, 1, 1, 0);
        x.run(1);
        dueAll(x, 1, 0, 0, 0, 1, 1);
        x.run(1);
        dueAll(x, 1, 0, 0, 0, 0, 1);
        x.run(1);
        dueAll(x, 1, 0, 0, 0, 0, 0);
        x.run(1);
        dueAll(x, 1, 1, 0, 0, 0, 0);
        x.clear();
        dueAll(x, 1, 0, 0, 0, 0, 0);
    }

    private static StageCycles branching() {
        StageCycles x = Cores.core(5, 1, 1, 1, 4, 1);
        Cores.set(x, 1, 1);
        Cores.branch(x, 1, 0);
        Cores.set(x, 2, 2);
        return x;
    }

    private static void dueAll(StageCycles x, int what, int... due) {
        for (int s = 0; s < due.length; s++) {
            CHECK.due("cycle " + x.count(0) + ", stage(" + s + ", " + what + ")", x.stage(s, what), due[s]);
        }
    }

    private static void noSuchStage() {
        for (int n = 3; n <= 8; n++) {
            StageCycles x = Cores.core(n, 1, 1, 1, 1, 1);
            dueNoSuchStage(x, n);
            Cores.set(x, 1, 1);
            x.run(n);
            dueNoSuchStage(x, n);
        }
    }

    private static void dueNoSuchStage(StageCycles x, int stages) {
        for (int s : new int[] {-1, stages, stages + 1, 8, Integer.MIN_VALUE, Integer.MAX_VALUE}) {
            for (int what = 0; what < 2; what++) {
                int w = what;
                CHECK.dueThrow("stage(" + s + ", " + w + ") of " + stages, INDEX, () -> x.stage(s, w));
            }
        }
        boolean empty = x.count(0) == 0;
        CHECK.due("stage(0, 0)", x.stage(0, 0), empty ? -1 : 0);
        CHECK.due("stage(0, 1)", x.stage(0, 1), empty ? 0 : 1);
        CHECK.due("stage(N - 1, 0)", x.stage(stages - 1, 0), empty ? -1 : 0);
        CHECK.due("stage(N - 1, 1)", x.stage(stages - 1, 1), empty ? 0 : 1);
    }

    private static void noSuchWhat() {
        StageCycles x = Cores.core(4, 1, 1, 1, 1, 1);
        Cores.fill(x, 3);
        x.run(2);
        for (int what : new int[] {-1, 2, 3, Integer.MIN_VALUE, Integer.MAX_VALUE}) {
            for (int s : new int[] {0, 1, 2, 3, -1, 4, Integer.MIN_VALUE, Integer.MAX_VALUE}) {
                CHECK.dueThrow("stage(" + s + ", " + what + ")", INDEX, () -> x.stage(s, what));
            }
        }
    }
}
