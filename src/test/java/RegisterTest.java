/** Promise 8: register. */
public final class RegisterTest {
    private static final Check CHECK = new Check();

    public static void main(String[] args) {
        StageCycles x = Cores.core(4, 1, 1, 1, 3, 1);
        wrongCalls(x);
        for (int r = 0; r < 8; r++) {
            Cores.set(x, r, r % 2 == 0 ? -r - 1 : Integer.MAX_VALUE - r);
        }
        Cores.branch(x, 0, 10);
        Cores.set(x, 3, 77);
        Cores.stop(x);
        for (int cycle = 1; cycle <= 16; cycle++) {
            x.run(1);
            // word w leaves in cycle 5 + w, and not before that does anyone see what it wrote
            for (int r = 0; r < 8; r++) {
                int want = cycle < 5 + r ? 0 : r % 2 == 0 ? -r - 1 : Integer.MAX_VALUE - r;
                CHECK.due("cycle " + cycle + ", register(" + r + ")", x.register(r), want);
            }
        }
        wrongCalls(x);
        CHECK.end();
    }

    private static void wrongCalls(StageCycles x) {
        for (int r : new int[] {-1, 8, 9, 64, Integer.MIN_VALUE, Integer.MAX_VALUE}) {
            CHECK.dueThrow("register(" + r + ")", IndexOutOfBoundsException.class, () -> x.register(r));
        }
    }
}
