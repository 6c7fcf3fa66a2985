/** Promise 9: memory. */
public final class MemoryTest {
    private static final Check CHECK = new Check();

    public static void main(String[] args) {
        wrongCalls();
        seenOnceCommitted();
        stored(0, 0);
        stored(63, 63);
        stored(64, 0);
        stored(-1, 63);
        stored(-64, 0);
        stored(-65, 63);
        stored(130, 2);
        stored(Integer.MAX_VALUE, 63);
        stored(Integer.MIN_VALUE, 0);
        CHECK.end();
    }

    private static void wrongCalls() {
        StageCycles x = Cores.core(3, 1, 1, 1, 1, 1);
        for (int at : new int[] {-1, 64, 65, Integer.MIN_VALUE, Integer.MAX_VALUE}) {
            CHECK.dueThrow("memory(" + at + ")", IndexOutOfBoundsException.class, () -> x.memory(at));
        }
    }

    /** A STORE is seen once it is committed; the one behind the branch is astray, and never seen. */
    private static void seenOnceCommitted() {
        StageCycles x = Cores.core(4, 1, 1, 1, 3, 1);
        Cores.set(x, 1, 9);
        Cores.store(x, 1, 1);
        Cores.load(x, 2, 1);
        Cores.branch(x, 2, 5);
        Cores.store(x, 0, 1);
        Cores.stop(x);
        for (int cycle = 1; cycle <= 13; cycle++) {
            CHECK.due("run(1)", x.run(1), 1);
            CHECK.due("cycle " + cycle + ", memory(9)", x.memory(9), cycle < 6 ? 0 : 9);
            CHECK.due("cycle " + cycle + ", memory(0)", x.memory(0), 0);
            CHECK.due("cycle " + cycle + ", register(2)", x.register(2), cycle < 7 ? 0 : 9);
        }
        CHECK.due("STOP left", x.count(5), 1);
    }

    private static void stored(int number, int place) {
        StageCycles x = Cores.core(3, 1, 1, 1, 1, 1);
        Cores.set(x, 1, number);
        Cores.set(x, 2, 12345);
        Cores.store(x, 1, 2);
        Cores.load(x, 3, 1);
        Cores.set(x, 4, place);
        Cores.load(x, 5, 4);
        Cores.stop(x);
        x.run(20);
        for (int at = 0; at < 64; at++) {
            CHECK.due("stored at " + number + ", memory(" + at + ")", x.memory(at), at == place ? 12345 : 0);
        }
        CHECK.due("loaded from " + number, x.register(3), 12345);
        CHECK.due("loaded from " + place, x.register(5), 12345);
    }
}
