/** Promise 4: clear. */
public final class ClearTest {
    private static final Check CHECK = new Check();

    public static void main(String[] args) {
        fresh();
        everythingBeginsAnew();
        settingsStay();
        clearInTheMidst();
        oldValuesAreGone();
        CHECK.end();
    }

    private static void fresh() {
        StageCycles x = new StageCycles(1, 1, 1, 1, 1, 1);
        CHECK.due("clear of a new object", x.clear(), 0);
        Cores.set(x, 1, 1);
        CHECK.due("clear with words alone", x.clear(), 0);
        CHECK.due("words after clear", x.count(12), 0);
        CHECK.dueThrow("run after clear", IllegalStateException.class, () -> x.run(1));
    }

    private static StageCycles busy() {
        StageCycles x = Cores.core(5, 1, 2, 3, 3, 4);
        busyWords(x);
        return x;
    }

    private static void busyWords(StageCycles x) {
        Cores.set(x, 1, 5);
        Cores.mul(x, 2, 1, 1);
        Cores.store(x, 1, 2);
        Cores.load(x, 3, 1);
        Cores.add(x, 4, 3, 3, 1);
        Cores.branch(x, 4, 7);
        Cores.set(x, 5, 5);
        Cores.stop(x);
    }

    private static void everythingBeginsAnew() {
        StageCycles x = busy();
        int first = x.run(100);
        String journal = Cores.journal(x);
        String causes = Cores.causes(x);
        CHECK.due("STOP left", x.count(5), 1);
        CHECK.due("clear", x.clear(), first);
        for (int what : new int[] {0, 1, 2, 3, 4, 5, 12, 13}) {
            CHECK.due("count(" + what + ") after clear", x.count(what), 0);
        }
        dueEmpty(x);
        CHECK.due("clear again", x.clear(), 0);
        busyWords(x);
        CHECK.due("the same run anew", x.run(100), first);
        CHECK.due("the same journal anew", Cores.journal(x), journal);
        CHECK.due("the same causes anew", Cores.causes(x), causes);
    }

    private static void dueEmpty(StageCycles x) {
        CHECK.due("stages after clear", Cores.picture(x), ". . . . .");
        CHECK.due("causes after clear", Cores.causes(x), "0 0 0 0 0");
        for (int r = 0; r < 8; r++) {
            CHECK.due("register after clear", x.register(r), 0);
        }
        for (int at = 0; at < 64; at++) {
            CHECK.due("memory after clear", x.memory(at), 0);
        }
        CHECK.dueThrow("committed after clear", IndexOutOfBoundsException.class, () -> x.committed(0, 0));
        for (int i = 0; i < 6; i++) {
            CHECK.due("the shape stays", x.count(6 + i), new int[] {5, 1, 2, 3, 3, 4}[i]);
        }
    }

    private static void settingsStay() {
        StageCycles x = Cores.core(3, 1, 1, 1, 1, 1);
        x.set(false, 2);
        Cores.fault(x);
        x.run(9);
        x.clear();
        for (int w = 0; w < 4; w++) {
            Cores.fault(x);
        }
        x.run(5);
        CHECK.due("H stays", Cores.picture(x), "2 . .");
        x.clear();
        CHECK.due("handing forward stays off", x.set(true, 2) ? 1 : 0, 0);
        x.clear();
        CHECK.due("handing forward stays on", x.set(true, 2) ? 1 : 0, 1);
    }

    /** What was under way (a word at work, fetching astray, a fetched STOP) leaves no trace. */
    private static void clearInTheMidst() {
        for (int cycles = 1; cycles < 20; cycles++) {
            StageCycles x = busy();
            CHECK.due("run(" + cycles + ")", x.run(cycles), cycles);
            CHECK.due("clear after run(" + cycles + ")", x.clear(), cycles);
            dueEmpty(x);
            Cores.load(x, 3, 0);
            Cores.mul(x, 2, 3, 3);
            Cores.stop(x);
            // the LOAD is in stage 4 at the end of cycle 5: handed to the MUL, that works in 5, 6, 7 and 8
            Cores.dueCycles(CHECK, "cleared after " + cycles, x, "4: 0 . . . .", "4: 1 0 . . .", "4: 2 1 0 . .",
                    "2: 2 1 . 0 .", "3: 2 1 . . 0", "0: 2 1 . . .", "3: 2 1 . . .", "4: . 2 1 . .");
        }
    }

    /** Both branches of the second program would go with the first one's register 1 or memory at 1. */
    private static void oldValuesAreGone() {
        StageCycles x = Cores.core(4, 1, 1, 1, 2, 1);
        x.set(true, 3);
        Cores.set(x, 1, 1);
        Cores.store(x, 1, 1);
        Cores.fault(x);
        Cores.stop(x);
        x.run(100);
        CHECK.due("faults before clear", x.count(4), 1);
        x.clear();
        CHECK.due("faults after clear", x.count(4), 0);
        Cores.branch(x, 1, 0);
        Cores.set(x, 3, 1);
        Cores.load(x, 2, 3);
        Cores.branch(x, 2, 0);
        Cores.stop(x);
        CHECK.due("run after clear", x.run(100), 9);
        CHECK.due("journal after clear", Cores.journal(x), "0@5=0 1@6=1 2@7=0 3@8=0 4@9=0");
        CHECK.due("went after clear", x.count(13), 0);
        CHECK.due("squashed after clear", x.count(3), 0);
        CHECK.due("STOP left again", x.count(5), 1);
    }
}
