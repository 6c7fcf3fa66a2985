/** Promise 8: register. */
public final class RegisterTest {
    private static final Check CHECK = new Check();

    public static void main(String[] args) {
        CHECK.sentence("A register as committed words have it", RegisterTest::asCommitted);
        CHECK.sentence("as committed words have it: not as squashed ones do", RegisterTest::notAsSquashed);
        CHECK.sentence("IndexOutOfBoundsException, when there is none", RegisterTest::none);
        CHECK.end();
    }

    private static void asCommitted() {
        StageCycles x = Cores.core(4, 1, 1, 1, 3, 1);
        for (int r = 0; r < 8; r++) {
            Cores.set(x, r, r % 2 == 0 ? -r - 1 : Integer.MAX_VALUE - r);
        }
        Cores.stop(x);
        for (int cycle = 1; cycle <= 14; cycle++) {
            x.run(1);
            // word w leaves in cycle 5 + w, and not before that does anyone see what it wrote
            for (int r = 0; r < 8; r++) {
                int want = cycle < 5 + r ? 0 : r % 2 == 0 ? -r - 1 : Integer.MAX_VALUE - r;
                CHECK.due("cycle " + cycle + ", register(" + r + ")", x.register(r), want);
            }
        }
    }

    private static void notAsSquashed() {
        StageCycles x = Cores.core(4, 1, 1, 1, 3, 1);
        x.set(true, 6);
        Cores.set(x, 0, 1);
        Cores.branch(x, 0, 4);
        Cores.set(x, 0, 77);
        Cores.set(x, 7, 78);
        Cores.fault(x);
        Cores.set(x, 7, 79);
        Cores.stop(x);
        for (int cycle = 1; cycle <= 16; cycle++) {
            CHECK.due("run(1)", x.run(1), 1);
            CHECK.due("cycle " + cycle + ", register(0)", x.register(0), cycle < 5 ? 0 : 1);
            CHECK.due("cycle " + cycle + ", register(7)", x.register(7), 0);
        }
        CHECK.due("STOP left", x.count(5), 1);
    }

    private static void none() {
        StageCycles x = Cores.core(4, 1, 1, 1, 3, 1);
        dueNone(x, "a new object");
        Cores.fill(x, 2);
        x.run(9);
        dueNone(x, "behind cycles");
        CHECK.due("register(0)", x.register(0), 0);
        CHECK.due("register(7)", x.register(7), 0);
    }

    private static void dueNone(StageCycles x, String state) {
        for (int r : new int[] {-1, -8, 8, 9, 64, Integer.MIN_VALUE, Integer.MAX_VALUE}) {
            CHECK.dueThrow(state + ", register(" + r + ")", IndexOutOfBoundsException.class, () -> x.register(r));
        }
    }
}
