/** A call that throws changes nothing: an object that got such calls goes on as its twin that got none. */
public final class RefusedCallsTest {
    private static final Check CHECK = new Check();
    private static final int[] BAD = {-1, 2001, Integer.MIN_VALUE, Integer.MAX_VALUE};

    public static void main(String[] args) {
        CHECK.sentence("a new object", () -> dueTwins(0, 0));
        CHECK.sentence("words, and no cycles", () -> dueTwins(10, 0));
        CHECK.sentence("64 words, and no cycles", () -> dueTwins(64, 0));
        for (int cycles = 1; cycles <= 24; cycles++) {
            int c = cycles;
            CHECK.sentence("words, and " + c + " cycles", () -> dueTwins(10, c));
        }
        CHECK.sentence("64 words, and 10 cycles", () -> dueTwins(64, 10));
        CHECK.sentence("STOP left", () -> dueTwins(10, 2000));
        CHECK.end();
    }

    private static StageCycles make(int words, int cycles) {
        StageCycles x = Cores.core(6, 2, 3, 4, 4, 3);
        x.set(false, 6);
        if (words > 0) {
            Cores.set(x, 1, 1);
            Cores.load(x, 2, 1);
            Cores.mul(x, 3, 2, 1);
            Cores.branch(x, 1, 5);
            Cores.fill(x, 1);
            Cores.fault(x);
            Cores.store(x, 1, 1);
            Cores.branch(x, 2, 9);
            Cores.branch(x, 1, 9);
            Cores.stop(x);
            Cores.fill(x, words - 10);
        }
        if (cycles > 0) {
            x.run(cycles);
        }
        return x;
    }

    private static void dueTwins(int words, int cycles) {
        StageCycles x = make(words, cycles);
        StageCycles twin = make(words, cycles);
        refusedCalls(x, words, cycles);
        if (words == 0) {
            Cores.fill(x, 1);
            Cores.fill(twin, 1);
        }
        CHECK.due("run(5)", x.run(5), twin.run(5));
        CHECK.due("all that shows", Cores.all(x), Cores.all(twin));
        CHECK.due("run(2000)", x.run(2000), twin.run(2000));
        CHECK.due("counts at the end", Cores.counts(x), Cores.counts(twin));
        CHECK.due("clear()", x.clear(), twin.clear());
        CHECK.due("handing forward", x.set(true, 0), twin.set(true, 0));
    }

    private static void refusedCalls(StageCycles x, int words, int cycles) {
        Class<IllegalArgumentException> argument = IllegalArgumentException.class;
        Class<IndexOutOfBoundsException> index = IndexOutOfBoundsException.class;
        for (int bad : BAD) {
            CHECK.dueThrow("word, kind " + bad, argument, () -> x.word(bad, 1, 1, 1, 1));
            CHECK.dueThrow("word, d " + bad, argument, () -> x.word(7, bad, 1, 1, 1));
            CHECK.dueThrow("word, a " + bad, argument, () -> x.word(7, 1, bad, 1, 1));
            CHECK.dueThrow("word, b " + bad, argument, () -> x.word(7, 1, 1, bad, 1));
            CHECK.dueThrow("set, h " + bad, argument, () -> x.set(true, bad) ? 1 : 0);
            CHECK.dueThrow("run(" + bad + ")", argument, () -> x.run(bad));
            CHECK.dueThrow("stage(" + bad + ", 0)", index, () -> x.stage(bad, 0));
            CHECK.dueThrow("stage(0, " + bad + ")", index, () -> x.stage(0, bad));
            CHECK.dueThrow("committed(" + bad + ", 0)", index, () -> x.committed(bad, 0));
            CHECK.dueThrow("committed(0, " + bad + ")", index, () -> x.committed(0, bad));
            CHECK.dueThrow("register(" + bad + ")", index, () -> x.register(bad));
            CHECK.dueThrow("memory(" + bad + ")", index, () -> x.memory(bad));
            CHECK.dueThrow("cause(" + bad + ")", index, () -> x.cause(bad));
            CHECK.due("count(" + bad + ")", x.count(bad), -1);
        }
        if (cycles > 0) {
            CHECK.dueThrow("word behind cycles", IllegalStateException.class, () -> Cores.stop(x));
            CHECK.dueThrow("set behind cycles", IllegalStateException.class, () -> x.set(true, 0) ? 1 : 0);
        } else if (words == 64) {
            CHECK.dueThrow("word behind 64", UnsupportedOperationException.class, () -> Cores.stop(x));
        } else if (words == 0) {
            CHECK.dueThrow("run without words", IllegalStateException.class, () -> x.run(1));
        }
    }
}
