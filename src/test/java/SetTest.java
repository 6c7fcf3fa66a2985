/** Promise 3: set. */
public final class SetTest {
    private static final Check CHECK = new Check();
    private static final Class<IllegalArgumentException> ARGUMENT = IllegalArgumentException.class;
    private static final Class<IllegalStateException> STATE = IllegalStateException.class;

    public static void main(String[] args) {
        answers();
        wrongCalls();
        forwardingMatters();
        for (int h = 0; h < 64; h++) {
            handler(h, 5);
            handler(h, 64);
        }
        handler(63, 1);
        CHECK.end();
    }

    private static void answers() {
        StageCycles x = new StageCycles(0, 0, 0, 0, 0, 0);
        CHECK.due("set(false, 0)", x.set(false, 0) ? 1 : 0, 1);
        CHECK.due("set(false, 63)", x.set(false, 63) ? 1 : 0, 0);
        CHECK.due("set(true, 0)", x.set(true, 0) ? 1 : 0, 0);
        CHECK.due("set(true, 5)", x.set(true, 5) ? 1 : 0, 1);
    }

    private static void wrongCalls() {
        StageCycles x = new StageCycles(0, 0, 0, 0, 0, 0);
        for (int h : new int[] {-1, 64, 65, Integer.MIN_VALUE, Integer.MAX_VALUE}) {
            CHECK.dueThrow("h " + h, ARGUMENT, () -> x.set(false, h) ? 1 : 0);
        }
        CHECK.due("a refused set changes nothing", x.set(true, 0) ? 1 : 0, 1);
        Cores.set(x, 1, 1);
        x.run(1);
        CHECK.dueThrow("set after a cycle", STATE, () -> x.set(false, 0) ? 1 : 0);
        CHECK.dueThrow("a wrong h before cycles", ARGUMENT, () -> x.set(false, 64) ? 1 : 0);
        CHECK.dueThrow("a wrong h before cycles", ARGUMENT, () -> x.set(false, -1) ? 1 : 0);
        x.clear();
        CHECK.due("set after clear", x.set(false, 0) ? 1 : 0, 1);
    }

    private static void forwardingMatters() {
        for (int on = 0; on < 2; on++) {
            StageCycles x = Cores.core(6, 1, 1, 1, 1, 1);
            x.set(on == 1, 0);
            Cores.set(x, 1, 3);
            Cores.add(x, 2, 1, 1, 0);
            Cores.stop(x);
            // off: the word behind waits until the first one leaves in cycle 7, instead of going on in 4
            CHECK.due("cycles with handing forward " + on, x.run(100), on == 1 ? 9 : 12);
            CHECK.due("the sum", x.register(2), 6);
        }
    }

    /** A FAULT at word 0: H is fetched in the cycle behind the one in which the FAULT leaves. */
    private static void handler(int h, int words) {
        StageCycles x = Cores.core(3, 1, 1, 1, 1, 1);
        x.set(true, h);
        Cores.fault(x);
        for (int w = 1; w < words; w++) {
            Cores.set(x, 1, w);
        }
        x.run(4);
        CHECK.due("stages once the FAULT left", Cores.picture(x), ". . .");
        x.run(1);
        CHECK.due("H " + h + " of " + words, Cores.picture(x), h % words + " . .");
    }
}
