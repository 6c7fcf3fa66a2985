/** Promise 6: stage. */
public final class StageTest {
    private static final Check CHECK = new Check();
    private static final Class<IndexOutOfBoundsException> INDEX = IndexOutOfBoundsException.class;

    public static void main(String[] args) {
        for (int n = 3; n <= 8; n++) {
            StageCycles x = Cores.core(n, 1, 1, 1, 1, 1);
            wrongCalls(x, n);
            Cores.set(x, 1, 1);
            x.run(n);
            wrongCalls(x, n);
        }
        answers();
        CHECK.end();
    }

    private static void wrongCalls(StageCycles x, int stages) {
        for (int s : new int[] {-1, stages, stages + 1, 8, Integer.MIN_VALUE, Integer.MAX_VALUE}) {
            CHECK.dueThrow("stage(" + s + ", 0) of " + stages, INDEX, () -> x.stage(s, 0));
            CHECK.dueThrow("stage(" + s + ", 1) of " + stages, INDEX, () -> x.stage(s, 1));
        }
        for (int what : new int[] {-1, 2, 3, Integer.MIN_VALUE, Integer.MAX_VALUE}) {
            CHECK.dueThrow("stage(0, " + what + ")", INDEX, () -> x.stage(0, what));
            CHECK.dueThrow("stage(N - 1, " + what + ")", INDEX, () -> x.stage(stages - 1, what));
        }
    }

    private static void answers() {
        StageCycles x = Cores.core(5, 1, 1, 1, 4, 1);
        Cores.set(x, 1, 1);
        Cores.branch(x, 1, 0);
        Cores.set(x, 2, 2);
        dueStages(x, new int[] {-1, -1, -1, -1, -1}, new int[] {0, 0, 0, 0, 0});
        x.run(1);
        dueStages(x, new int[] {0, -1, -1, -1, -1}, new int[] {1, 0, 0, 0, 0});
        x.run(3);
        dueStages(x, new int[] {0, 2, 1, 0, -1}, new int[] {0, 0, 1, 1, 0});
        x.run(1);
        dueStages(x, new int[] {1, 0, 2, 1, 0}, new int[] {0, 0, 0, 1, 1});
        x.run(1);
        dueStages(x, new int[] {2, 1, 0, 2, 1}, new int[] {0, 0, 0, 0, 1});
        x.run(1);
        dueStages(x, new int[] {-1, -1, -1, -1, -1}, new int[] {0, 0, 0, 0, 0});
    }

    private static void dueStages(StageCycles x, int[] words, int[] ways) {
        for (int s = 0; s < words.length; s++) {
            CHECK.due("cycle " + x.count(0) + ", stage(" + s + ", 0)", x.stage(s, 0), words[s]);
            CHECK.due("cycle " + x.count(0) + ", stage(" + s + ", 1)", x.stage(s, 1), ways[s]);
        }
    }
}
