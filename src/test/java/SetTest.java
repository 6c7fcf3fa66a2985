/** Promise 3: set. */
public final class SetTest {
    private static final Check CHECK = new Check();
    private static final Class<IllegalArgumentException> ARGUMENT = IllegalArgumentException.class;
    private static final Class<IllegalStateException> STATE = IllegalStateException.class;

    public static void main(String[] args) {
        CHECK.sentence("Handing forward", SetTest::forwardingMatters);
        CHECK.sentence("and H", SetTest::handlers);
        CHECK.sentence("whether it was on", SetTest::whetherItWasOn);
        CHECK.sentence("IllegalArgumentException, when h is not 0 .. 63", SetTest::wrongHandlers);
        CHECK.sentence("(taken modulo the words)", SetTest::moduloTheWords);
        CHECK.sentence("IllegalStateException, when cycles were done", SetTest::cyclesWereDone);
        CHECK.sentence("a refused set sets nothing", SetTest::refusedSetsNothing);
        CHECK.end();
    }

    private static void whetherItWasOn() {
        StageCycles x = new StageCycles(0, 0, 0, 0, 0, 0);
        CHECK.due("set(false, 0)", x.set(false, 0), true);
        CHECK.due("set(false, 63)", x.set(false, 63), false);
        CHECK.due("set(true, 0)", x.set(true, 0), false);
        CHECK.due("set(true, 5)", x.set(true, 5), true);
    }

    private static void wrongHandlers() {
        StageCycles x = new StageCycles(0, 0, 0, 0, 0, 0);
        for (int h : new int[] {-1, -64, 64, 65, 128, Integer.MIN_VALUE, Integer.MAX_VALUE}) {
            CHECK.dueThrow("h " + h, ARGUMENT, () -> x.set(false, h) ? 1 : 0);
            CHECK.dueThrow("h " + h, ARGUMENT, () -> x.set(true, h) ? 1 : 0);
        }
        CHECK.due("h 0", x.set(true, 0), true);
        CHECK.due("h 63", x.set(true, 63), true);
        // it is 0 .. 63 however few words there are
        Cores.fill(x, 2);
        CHECK.due("h 63 with two words", x.set(true, 63), true);
        CHECK.dueThrow("h 64 with two words", ARGUMENT, () -> x.set(true, 64) ? 1 : 0);
    }

    private static void forwardingMatters() {
        for (int on = 0; on < 2; on++) {
            StageCycles x = Cores.core(6, 1, 1, 1, 1, 1);
            x.set(on == 1, 0);
            Cores.set(x, 1, 3);
            Cores.add(x, 2, 1, 1, 0);
            Cores.stop(x);
            // off: the word behind waits until the first one leaves in cycle 7, instead of going on in 4
            CHECK.due("cycles with handing forward " + on, x.run(100), on == 1 ? 9 : 12);
            CHECK.due("the sum", x.register(2), 6);
        }
    }

    private static void handlers() {
        for (int h = 0; h < 64; h++) {
            dueHandler(h, 64);
        }
    }

    private static void moduloTheWords() {
        for (int words : new int[] {1, 2, 5, 32, 63, 64}) {
            for (int h : new int[] {0, 1, words - 1, Math.min(63, words), Math.min(63, words + 1), 62, 63}) {
                dueHandler(h, words);
            }
        }
        // the words are those that there are when the FAULT leaves, not those at the time of set
        StageCycles x = Cores.core(3, 1, 1, 1, 1, 1);
        Cores.fault(x);
        Cores.fill(x, 1);
        x.set(true, 5);
        Cores.fill(x, 2);
        x.run(5);
        CHECK.due("H 5 of 4, set with 2", Cores.picture(x), "1 . .");
        x.clear();
        Cores.fault(x);
        Cores.fill(x, 6);
        x.run(5);
        CHECK.due("H 5 of 7, behind clear()", Cores.picture(x), "5 . .");
    }

    /** A FAULT at word 0: H is fetched in the cycle behind the one in which the FAULT leaves. */
    private static void dueHandler(int h, int words) {
        StageCycles x = Cores.core(3, 1, 1, 1, 1, 1);
        x.set(true, h);
        Cores.fault(x);
        for (int w = 1; w < words; w++) {
            Cores.set(x, 1, w);
        }
        x.run(4);
        CHECK.due("stages once the FAULT left", Cores.picture(x), ". . .");
        x.run(1);
        CHECK.due("H " + h + " of " + words, Cores.picture(x), h % words + " . .");
    }

    private static void cyclesWereDone() {
        StageCycles x = new StageCycles(0, 0, 0, 0, 0, 0);
        Cores.stop(x);
        CHECK.due("set with words", x.set(false, 0), true);
        x.run(1);
        CHECK.dueThrow("set behind one cycle", STATE, () -> x.set(true, 0) ? 1 : 0);
        CHECK.dueThrow("set to what is set", STATE, () -> x.set(false, 0) ? 1 : 0);
        x.run(100);
        CHECK.dueThrow("set once STOP left", STATE, () -> x.set(true, 0) ? 1 : 0);
        x.clear();
        CHECK.due("set behind clear()", x.set(true, 0), false);
    }

    private static void refusedSetsNothing() {
        StageCycles x = Cores.core(3, 1, 1, 1, 1, 1);
        x.set(true, 2);
        CHECK.dueThrow("h 64", ARGUMENT, () -> x.set(false, 64) ? 1 : 0);
        CHECK.dueThrow("h -1", ARGUMENT, () -> x.set(false, -1) ? 1 : 0);
        Cores.fault(x);
        Cores.fill(x, 3);
        x.run(1);
        CHECK.dueThrow("set behind a cycle", STATE, () -> x.set(false, 1) ? 1 : 0);
        x.run(4);
        CHECK.due("H", Cores.picture(x), "2 . .");
        x.clear();
        CHECK.due("whether it was on", x.set(true, 0), true);
    }
}
