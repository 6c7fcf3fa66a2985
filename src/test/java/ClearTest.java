/** Promise 4: clear. */
public final class ClearTest {
    private static final Check CHECK = new Check();

    public static void main(String[] args) {
        CHECK.sentence("how many cycles were done", ClearTest::howManyCycles);
        CHECK.sentence("clear() of an object without cycles", ClearTest::withoutCycles);
        CHECK.sentence("Everything begins anew", ClearTest::everythingBeginsAnew);
        CHECK.sentence("no cycles", ClearTest::inTheMidst);
        CHECK.sentence("no words", ClearTest::noWords);
        CHECK.sentence("registers and memory 0", ClearTest::oldValuesAreGone);
        CHECK.sentence("(handing forward .. stays)", ClearTest::forwardStays);
        CHECK.sentence("(.. H stays)", ClearTest::handlerStays);
        CHECK.sentence("the latest committed ones are gone", ClearTest::journalIsGone);
        CHECK.end();
    }

    private static void howManyCycles() {
        StageCycles x = Cores.core(4, 1, 1, 1, 1, 1);
        int[] runs = {1, 2, 1999, 2000};
        for (int n : runs) {
            Cores.fill(x, 3);
            x.run(n);
            CHECK.due("clear() behind run(" + n + ")", x.clear(), n);
            CHECK.due("clear() again", x.clear(), 0);
        }
        Cores.fill(x, 3);
        for (int n : runs) {
            x.run(n);
        }
        CHECK.due("clear() behind four runs", x.clear(), 4002);
        Cores.stop(x);
        x.run(2000);
        CHECK.due("clear() behind a STOP", x.clear(), 5);
    }

    private static void withoutCycles() {
        StageCycles x = new StageCycles(1, 1, 1, 1, 1, 1);
        CHECK.due("clear() of a new object", x.clear(), 0);
        Cores.set(x, 1, 1);
        CHECK.due("clear() with words alone", x.clear(), 0);
        CHECK.due("words behind it", x.count(12), 0);
        CHECK.dueThrow("run behind it", IllegalStateException.class, () -> x.run(1));
    }

    private static StageCycles busy() {
        StageCycles x = Cores.core(5, 1, 2, 3, 3, 4);
        busyWords(x);
        return x;
    }

    private static void busyWords(StageCycles x) {
        Cores.set(x, 1, 5);
        Cores.mul(x, 2, 1, 1);
        Cores.store(x, 1, 2);
        Cores.load(x, 3, 1);
        Cores.add(x, 4, 3, 3, 1);
        Cores.branch(x, 4, 7);
        Cores.set(x, 5, 5);
        Cores.stop(x);
    }

    private static void everythingBeginsAnew() {
        StageCycles x = busy();
        int first = x.run(100);
        String journal = Cores.journal(x);
        String causes = Cores.causes(x);
        CHECK.due("STOP left", x.count(5), 1);
        CHECK.due("clear()", x.clear(), first);
        CHECK.due("all that shows", Cores.all(x), Cores.all(Cores.core(5, 1, 2, 3, 3, 4)));
        busyWords(x);
        CHECK.due("the same run anew", x.run(100), first);
        CHECK.due("the same journal anew", Cores.journal(x), journal);
        CHECK.due("the same causes anew", Cores.causes(x), causes);
    }

    /** What was under way (a word at work, fetching astray, a fetched STOP) leaves no trace. */
    private static void inTheMidst() {
        for (int cycles = 1; cycles < 20; cycles++) {
            StageCycles x = busy();
            CHECK.due("run(" + cycles + ")", x.run(cycles), cycles);
            CHECK.due("clear() behind run(" + cycles + ")", x.clear(), cycles);
            CHECK.due("all that shows", Cores.all(x), Cores.all(Cores.core(5, 1, 2, 3, 3, 4)));
            Cores.load(x, 3, 0);
            Cores.mul(x, 2, 3, 3);
            Cores.stop(x);
            // the LOAD is in stage 4 at the end of cycle 5: handed to the MUL, that works in 5, 6, 7 and 8
            Cores.dueCycles(CHECK, "cleared behind " + cycles, x, "4: 0 . . . .", "4: 1 0 . . .", "4: 2 1 0 . .",
                    "2: 2 1 . 0 .", "3: 2 1 . . 0", "0: 2 1 . . .", "3: 2 1 . . .", "4: . 2 1 . .");
        }
    }

    private static void noWords() {
        StageCycles x = Cores.core(3, 1, 1, 1, 1, 1);
        for (int words : new int[] {64, 1, 63, 2}) {
            for (int w = 0; w < words; w++) {
                CHECK.due("the number of a word", Cores.fill(x), w);
            }
            CHECK.due("words", x.count(12), words);
            x.run(words + 1);
            // behind the last word comes 0, not one of the words that were there before
            CHECK.due("fetched last", x.stage(0, 0), 0);
            x.clear();
            CHECK.due("words behind clear()", x.count(12), 0);
            CHECK.dueThrow("run behind clear()", IllegalStateException.class, () -> x.run(1));
        }
    }

    /** Both branches of the second program would go with the first one's register 1 or memory at 1. */
    private static void oldValuesAreGone() {
        StageCycles x = Cores.core(4, 1, 1, 1, 2, 1);
        x.set(true, 3);
        Cores.set(x, 1, 1);
        Cores.store(x, 1, 1);
        Cores.fault(x);
        Cores.stop(x);
        x.run(100);
        CHECK.due("faults before clear()", x.count(4), 1);
        x.clear();
        CHECK.due("faults behind clear()", x.count(4), 0);
        CHECK.due("register(1)", x.register(1), 0);
        CHECK.due("memory(1)", x.memory(1), 0);
        Cores.branch(x, 1, 0);
        Cores.set(x, 3, 1);
        Cores.load(x, 2, 3);
        Cores.branch(x, 2, 0);
        Cores.stop(x);
        CHECK.due("run behind clear()", x.run(100), 9);
        CHECK.due("journal behind clear()", Cores.journal(x), "0@5=0 1@6=1 2@7=0 3@8=0 4@9=0");
        CHECK.due("went behind clear()", x.count(13), 0);
        CHECK.due("squashed behind clear()", x.count(3), 0);
        CHECK.due("STOP left again", x.count(5), 1);
        allPlacesAreGone();
    }

    /** A loop that stores in all places, and eight words that write all registers. */
    private static void allPlacesAreGone() {
        StageCycles x = Cores.core(3, 1, 1, 1, 1, 1);
        Cores.add(x, 1, 1, 0, 1);
        Cores.store(x, 1, 1);
        for (int r = 2; r < 8; r++) {
            Cores.add(x, r, r, 0, 1);
        }
        x.run(8 * 66);
        CHECK.due("a place that was stored", x.memory(0), 64);
        CHECK.due("a register that was written", x.register(7), 65);
        x.clear();
        CHECK.due("all that shows", Cores.all(x), Cores.all(Cores.core(3, 1, 1, 1, 1, 1)));
    }

    private static void forwardStays() {
        for (int on = 0; on < 2; on++) {
            StageCycles x = Cores.core(6, 1, 1, 1, 1, 1);
            x.set(on == 1, 0);
            Cores.fill(x, 1);
            x.run(9);
            x.clear();
            Cores.set(x, 1, 3);
            Cores.add(x, 2, 1, 1, 0);
            Cores.stop(x);
            CHECK.due("run with handing forward " + on, x.run(100), on == 1 ? 9 : 12);
            x.clear();
            CHECK.due("handing forward " + on, x.set(true, 0), on == 1);
        }
    }

    private static void handlerStays() {
        StageCycles x = Cores.core(3, 1, 1, 1, 1, 1);
        x.set(false, 2);
        Cores.fault(x);
        x.run(9);
        x.clear();
        for (int w = 0; w < 4; w++) {
            Cores.fault(x);
        }
        x.run(5);
        CHECK.due("H", Cores.picture(x), "2 . .");
    }

    private static void journalIsGone() {
        StageCycles x = Cores.core(3, 1, 1, 1, 1, 1);
        Cores.set(x, 1, 1);
        Cores.set(x, 2, 2);
        x.run(1000);
        CHECK.due("committed(399, 1)", x.committed(399, 1), 1000);
        x.clear();
        for (int k : new int[] {0, 1, 398, 399, 400}) {
            CHECK.dueThrow("committed(" + k + ", 0)", IndexOutOfBoundsException.class, () -> x.committed(k, 0));
        }
        Cores.set(x, 3, 33);
        x.run(5);
        CHECK.due("journal", Cores.journal(x), "0@4=33 0@5=33");
        CHECK.dueThrow("committed(2, 0)", IndexOutOfBoundsException.class, () -> x.committed(2, 0));
    }
}
