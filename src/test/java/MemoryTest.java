/** Promise 9: memory. */
public final class MemoryTest {
    private static final Check CHECK = new Check();

    public static void main(String[] args) {
        CHECK.sentence("A place of memory (0 .. 63)", MemoryTest::allPlaces);
        CHECK.sentence("as committed words have it", MemoryTest::asCommitted);
        CHECK.sentence("IndexOutOfBoundsException, when there is none", MemoryTest::none);
        CHECK.end();
    }

    /** A loop that stores at 1, 2, .. 63, 64 and 65, one behind the other. */
    private static void allPlaces() {
        StageCycles x = Cores.core(3, 1, 1, 1, 1, 1);
        Cores.add(x, 1, 1, 0, 1);
        Cores.store(x, 1, 1);
        x.run(2 * 63 + 3);
        for (int at = 0; at < 64; at++) {
            CHECK.due("memory(" + at + ")", x.memory(at), at);
        }
        x.run(2);
        CHECK.due("64 is stored at 0", x.memory(0), 64);
        CHECK.due("memory(1)", x.memory(1), 1);
        CHECK.due("memory(63)", x.memory(63), 63);
        x.run(2);
        CHECK.due("65 is stored at 1", x.memory(1), 65);
    }

    /** A STORE is seen once it is committed; the one behind the branch is astray, and never seen. */
    private static void asCommitted() {
        StageCycles x = Cores.core(4, 1, 1, 1, 3, 1);
        Cores.set(x, 1, 9);
        Cores.store(x, 1, 1);
        Cores.load(x, 2, 1);
        Cores.branch(x, 2, 5);
        Cores.store(x, 0, 1);
        Cores.stop(x);
        for (int cycle = 1; cycle <= 13; cycle++) {
            CHECK.due("run(1)", x.run(1), 1);
            CHECK.due("cycle " + cycle + ", memory(9)", x.memory(9), cycle < 6 ? 0 : 9);
            CHECK.due("cycle " + cycle + ", memory(0)", x.memory(0), 0);
            CHECK.due("cycle " + cycle + ", register(2)", x.register(2), cycle < 7 ? 0 : 9);
        }
        CHECK.due("STOP left", x.count(5), 1);
    }

    private static void none() {
        StageCycles x = Cores.core(3, 1, 1, 1, 1, 1);
        dueNone(x, "a new object");
        Cores.fill(x, 2);
        x.run(9);
        dueNone(x, "behind cycles");
        CHECK.due("memory(0)", x.memory(0), 0);
        CHECK.due("memory(63)", x.memory(63), 0);
    }

    private static void dueNone(StageCycles x, String state) {
        for (int at : new int[] {-1, -64, 64, 65, 128, Integer.MIN_VALUE, Integer.MAX_VALUE}) {
            CHECK.dueThrow(state + ", memory(" + at + ")", IndexOutOfBoundsException.class, () -> x.memory(at));
        }
    }
}
