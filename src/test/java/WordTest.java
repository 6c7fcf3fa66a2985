/** Promise 2: word. */
public final class WordTest {
    private static final Check CHECK = new Check();
    private static final Class<IllegalArgumentException> ARGUMENT = IllegalArgumentException.class;
    private static final Class<IllegalStateException> STATE = IllegalStateException.class;
    private static final Class<UnsupportedOperationException> UNSUPPORTED = UnsupportedOperationException.class;
    private static final int[] BAD = {-1, 8, 9, 63, 64, Integer.MIN_VALUE, Integer.MAX_VALUE};

    public static void main(String[] args) {
        CHECK.sentence("A word more: its number", WordTest::numbers);
        CHECK.sentence("a number n", WordTest::anyNumber);
        CHECK.sentence("IllegalArgumentException, when there is no such kind", WordTest::noSuchKind);
        CHECK.sentence("IllegalArgumentException, when there is no such .. register", WordTest::noSuchRegister);
        CHECK.sentence("IllegalStateException, when cycles were done", WordTest::cyclesWereDone);
        CHECK.sentence("since clear()", WordTest::sinceClear);
        CHECK.sentence("UnsupportedOperationException, when there are 64", WordTest::thereAre64);
        CHECK.sentence("a refused word is no word", WordTest::refusalsAddNothing);
        CHECK.end();
    }

    private static StageCycles small() {
        return Cores.core(3, 1, 1, 1, 1, 1);
    }

    private static void numbers() {
        StageCycles x = small();
        for (int w = 0; w < 64; w++) {
            CHECK.due("word " + w, x.word(w % 8, w % 8, 7 - w % 8, 7, w), w);
            CHECK.due("words", x.count(12), w + 1);
        }
    }

    private static void anyNumber() {
        StageCycles x = small();
        int[] numbers = {Integer.MIN_VALUE, -65, -64, -1, 0, 1, 63, 64, 65, Integer.MAX_VALUE};
        for (int i = 0; i < 64; i++) {
            CHECK.due("word", x.word(i % 8, 0, 0, 0, numbers[i % 10]), i);
        }
    }

    private static void noSuchKind() {
        StageCycles x = small();
        for (int kind : BAD) {
            CHECK.dueThrow("kind " + kind, ARGUMENT, () -> x.word(kind, 0, 0, 0, 0));
        }
        CHECK.due("kind 0", x.word(0, 0, 0, 0, 0), 0);
        CHECK.due("kind 7", x.word(7, 0, 0, 0, 0), 1);
    }

    /** A word has all three registers, of whatever kind it is. */
    private static void noSuchRegister() {
        for (int kind = 0; kind < 8; kind++) {
            StageCycles x = small();
            int k = kind;
            for (int bad : BAD) {
                CHECK.dueThrow("kind " + k + ", d " + bad, ARGUMENT, () -> x.word(k, bad, 0, 0, 0));
                CHECK.dueThrow("kind " + k + ", a " + bad, ARGUMENT, () -> x.word(k, 0, bad, 0, 0));
                CHECK.dueThrow("kind " + k + ", b " + bad, ARGUMENT, () -> x.word(k, 0, 0, bad, 0));
            }
            CHECK.due("kind " + k + ", registers 0", x.word(k, 0, 0, 0, 0), 0);
            CHECK.due("kind " + k + ", registers 7", x.word(k, 7, 7, 7, 0), 1);
        }
    }

    private static void cyclesWereDone() {
        StageCycles x = small();
        Cores.stop(x);
        CHECK.dueThrow("run(0)", ARGUMENT, () -> x.run(0));
        CHECK.due("a word behind a refused run", Cores.stop(x), 1);
        x.run(1);
        CHECK.dueThrow("a word behind one cycle", STATE, () -> Cores.stop(x));
        x.run(100);
        CHECK.dueThrow("a word once STOP left", STATE, () -> Cores.stop(x));
        CHECK.due("words", x.count(12), 2);
    }

    private static void sinceClear() {
        StageCycles x = small();
        for (int round = 0; round < 3; round++) {
            CHECK.due("a word at first", Cores.fill(x), 0);
            CHECK.due("a second one", Cores.fill(x), 1);
            x.run(5);
            CHECK.dueThrow("a word behind cycles", STATE, () -> Cores.fill(x));
            x.clear();
        }
    }

    private static void thereAre64() {
        StageCycles x = small();
        for (int w = 0; w < 63; w++) {
            Cores.fill(x);
        }
        CHECK.due("the 64th word", Cores.fill(x), 63);
        for (int kind = 0; kind < 8; kind++) {
            int k = kind;
            CHECK.dueThrow("a 65th word of kind " + k, UNSUPPORTED, () -> x.word(k, 0, 0, 0, 0));
        }
        CHECK.due("words", x.count(12), 64);
        x.clear();
        for (int w = 0; w < 64; w++) {
            CHECK.due("a word behind clear()", Cores.fill(x), w);
        }
        CHECK.dueThrow("a 65th word behind clear()", UNSUPPORTED, () -> Cores.fill(x));
    }

    private static void refusalsAddNothing() {
        StageCycles x = small();
        Cores.set(x, 1, 1);
        CHECK.dueThrow("kind 8", ARGUMENT, () -> x.word(8, 0, 0, 0, 0));
        CHECK.dueThrow("b 8", ARGUMENT, () -> x.word(0, 0, 0, 8, 0));
        CHECK.due("words", x.count(12), 1);
        CHECK.due("the next word that is taken", Cores.stop(x), 1);
        x.run(1);
        CHECK.dueThrow("a word behind a cycle", STATE, () -> Cores.set(x, 1, 9));
        CHECK.due("run to the end", x.run(100), 4);
        CHECK.due("committed", Cores.journal(x), "0@4=1 1@5=0");
    }
}
