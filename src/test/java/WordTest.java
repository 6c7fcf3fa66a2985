/** Promise 2: word. */
public final class WordTest {
    private static final Check CHECK = new Check();
    private static final Class<IllegalArgumentException> ARGUMENT = IllegalArgumentException.class;
    private static final Class<IllegalStateException> STATE = IllegalStateException.class;
    private static final Class<UnsupportedOperationException> UNSUPPORTED = UnsupportedOperationException.class;

    public static void main(String[] args) {
        numbers();
        wrongArguments(new StageCycles(0, 0, 0, 0, 0, 0), "no words");
        refusalsAddNothing();
        afterCycles();
        order();
        CHECK.end();
    }

    private static void numbers() {
        StageCycles x = new StageCycles(0, 0, 0, 0, 0, 0);
        for (int w = 0; w < 64; w++) {
            CHECK.due("word " + w, x.word(w % 8, w % 8, 7 - w % 8, 7, w % 2 == 0 ? Integer.MIN_VALUE : w), w);
            CHECK.due("words", x.count(12), w + 1);
        }
        for (int kind = 0; kind < 8; kind++) {
            int k = kind;
            CHECK.dueThrow("a word past 64", UNSUPPORTED, () -> x.word(k, 0, 0, 0, 0));
        }
        CHECK.due("words", x.count(12), 64);
        x.clear();
        CHECK.due("the first word after clear", x.word(7, 0, 0, 0, 0), 0);
    }

    private static void wrongArguments(StageCycles x, String state) {
        for (int bad : new int[] {-1, 8, 9, 64, Integer.MIN_VALUE, Integer.MAX_VALUE}) {
            CHECK.dueThrow(state + ", kind " + bad, ARGUMENT, () -> x.word(bad, 0, 0, 0, 0));
            for (int kind = 0; kind < 8; kind++) {
                int k = kind;
                CHECK.dueThrow(state + ", kind " + k + ", d " + bad, ARGUMENT, () -> x.word(k, bad, 0, 0, 0));
                CHECK.dueThrow(state + ", kind " + k + ", a " + bad, ARGUMENT, () -> x.word(k, 0, bad, 0, 0));
                CHECK.dueThrow(state + ", kind " + k + ", b " + bad, ARGUMENT, () -> x.word(k, 0, 0, bad, 0));
            }
        }
    }

    private static void refusalsAddNothing() {
        StageCycles x = new StageCycles(0, 0, 0, 0, 0, 0);
        CHECK.dueThrow("kind 8", ARGUMENT, () -> x.word(8, 0, 0, 0, 0));
        CHECK.dueThrow("b 8", ARGUMENT, () -> x.word(0, 0, 0, 8, 0));
        CHECK.due("words", x.count(12), 0);
        CHECK.due("the first word that is taken", x.word(6, 0, 0, 0, 0), 0);
    }

    private static void afterCycles() {
        StageCycles x = new StageCycles(0, 0, 0, 0, 0, 0);
        Cores.set(x, 1, 1);
        x.run(1);
        CHECK.dueThrow("word after a cycle", STATE, () -> x.word(0, 0, 0, 0, 0));
        CHECK.due("words", x.count(12), 1);
        x.clear();
        CHECK.due("word after clear", x.word(0, 0, 0, 0, 0), 0);
    }

    private static void order() {
        StageCycles x = new StageCycles(0, 0, 0, 0, 0, 0);
        for (int w = 0; w < 64; w++) {
            Cores.set(x, 1, w);
        }
        CHECK.dueThrow("a wrong kind before 64 words", ARGUMENT, () -> x.word(8, 0, 0, 0, 0));
        CHECK.dueThrow("a wrong register before 64 words", ARGUMENT, () -> x.word(0, 0, -1, 0, 0));
        x.run(1);
        CHECK.dueThrow("cycles before 64 words", STATE, () -> x.word(0, 0, 0, 0, 0));
        CHECK.dueThrow("a wrong kind before cycles", ARGUMENT, () -> x.word(-1, 0, 0, 0, 0));
        CHECK.dueThrow("a wrong register before cycles", ARGUMENT, () -> x.word(0, 8, 0, 0, 0));
    }
}
