/** An object is used for 512 calls after it has been made: the last of them are answered as the first ones. */
public final class ManyCallsTest {
    private static final Check CHECK = new Check();

    public static void main(String[] args) {
        CHECK.sentence("512 calls of run", ManyCallsTest::runs);
        CHECK.sentence("512 calls, with a clear() in every fourth", ManyCallsTest::clears);
        CHECK.sentence("512 calls of word", ManyCallsTest::words);
        CHECK.end();
    }

    /** A word and 507 runs of 2000 cycles make more than a million of them. */
    private static void runs() {
        StageCycles x = Cores.core(3, 1, 1, 1, 1, 1);
        Cores.add(x, 1, 1, 0, 1);
        for (int call = 2; call <= 508; call++) {
            CHECK.due("call " + call + ", run(2000)", x.run(2000), 2000);
        }
        CHECK.due("call 509, cycles", x.count(0), 507 * 2000);
        CHECK.due("call 510, register(1)", x.register(1), 507 * 2000 - 3);
        CHECK.due("call 511, committed(399, 1)", x.committed(399, 1), 507 * 2000);
        CHECK.due("call 512, committed(0, 2)", x.committed(0, 2), 507 * 2000 - 3 - 399);
    }

    private static void clears() {
        StageCycles x = Cores.core(4, 1, 1, 1, 1, 1);
        for (int round = 0; round < 128; round++) {
            CHECK.due("word", Cores.set(x, 1, round), 0);
            CHECK.due("run", x.run(5), 5);
            CHECK.due("register(1)", x.register(1), round);
            CHECK.due("clear()", x.clear(), 5);
        }
    }

    private static void words() {
        StageCycles x = Cores.core(4, 1, 1, 1, 1, 1);
        for (int call = 0; call < 512; call++) {
            if (call < 64) {
                CHECK.due("a word", Cores.fill(x), call);
            } else {
                CHECK.dueThrow("a word behind 64", UnsupportedOperationException.class, () -> Cores.fill(x));
            }
        }
    }
}
