/** For all promises: of several exceptions the first one told is thrown. */
public final class OrderTest {
    private static final Check CHECK = new Check();
    private static final Class<IllegalArgumentException> ARGUMENT = IllegalArgumentException.class;
    private static final Class<IllegalStateException> STATE = IllegalStateException.class;
    private static final Class<UnsupportedOperationException> UNSUPPORTED = UnsupportedOperationException.class;

    public static void main(String[] args) {
        CHECK.sentence("word: no such kind or register, before cycles were done", OrderTest::wordArgumentBeforeCycles);
        CHECK.sentence("word: no such kind or register, before there are 64", OrderTest::wordArgumentBefore64);
        CHECK.sentence("word: cycles were done, before there are 64", OrderTest::wordCyclesBefore64);
        CHECK.sentence("word: all three", OrderTest::wordAllThree);
        CHECK.sentence("set: h is not 0 .. 63, before cycles were done", OrderTest::setArgumentBeforeCycles);
        CHECK.sentence("run: n is none of these, before there are no words", OrderTest::runArgumentBeforeNoWords);
        CHECK.end();
    }

    private static StageCycles filled(int words) {
        StageCycles x = Cores.core(3, 1, 1, 1, 1, 1);
        Cores.fill(x, words);
        return x;
    }

    private static void dueArgument(StageCycles x) {
        for (int bad : new int[] {-1, 8, Integer.MIN_VALUE, Integer.MAX_VALUE}) {
            CHECK.dueThrow("kind " + bad, ARGUMENT, () -> x.word(bad, 0, 0, 0, 0));
            CHECK.dueThrow("d " + bad, ARGUMENT, () -> x.word(0, bad, 0, 0, 0));
            CHECK.dueThrow("a " + bad, ARGUMENT, () -> x.word(0, 0, bad, 0, 0));
            CHECK.dueThrow("b " + bad, ARGUMENT, () -> x.word(0, 0, 0, bad, 0));
        }
    }

    private static void wordArgumentBeforeCycles() {
        StageCycles x = filled(1);
        x.run(1);
        dueArgument(x);
        CHECK.dueThrow("cycles alone", STATE, () -> x.word(0, 0, 0, 0, 0));
    }

    private static void wordArgumentBefore64() {
        StageCycles x = filled(64);
        dueArgument(x);
        CHECK.dueThrow("64 words alone", UNSUPPORTED, () -> x.word(0, 0, 0, 0, 0));
    }

    private static void wordCyclesBefore64() {
        StageCycles x = filled(64);
        x.run(1);
        CHECK.dueThrow("cycles and 64 words", STATE, () -> x.word(0, 0, 0, 0, 0));
        StageCycles y = filled(63);
        Cores.stop(y);
        y.run(2000);
        CHECK.dueThrow("a STOP that left and 64 words", STATE, () -> y.word(0, 0, 0, 0, 0));
    }

    private static void wordAllThree() {
        StageCycles x = filled(64);
        x.run(1);
        dueArgument(x);
    }

    private static void setArgumentBeforeCycles() {
        StageCycles x = filled(1);
        x.run(1);
        for (int h : new int[] {-1, 64, Integer.MIN_VALUE, Integer.MAX_VALUE}) {
            CHECK.dueThrow("h " + h, ARGUMENT, () -> x.set(true, h) ? 1 : 0);
        }
        CHECK.dueThrow("cycles alone", STATE, () -> x.set(true, 0) ? 1 : 0);
        CHECK.dueThrow("cycles alone", STATE, () -> x.set(true, 63) ? 1 : 0);
    }

    private static void runArgumentBeforeNoWords() {
        StageCycles x = filled(0);
        for (int n : new int[] {0, -1, 2001, Integer.MIN_VALUE, Integer.MAX_VALUE}) {
            CHECK.dueThrow("run(" + n + ")", ARGUMENT, () -> x.run(n));
        }
        CHECK.dueThrow("no words alone", STATE, () -> x.run(1));
        CHECK.dueThrow("no words alone", STATE, () -> x.run(2000));
    }
}
