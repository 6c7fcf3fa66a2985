/** Promise 7: committed. */
public final class CommittedTest {
    private static final Check CHECK = new Check();
    private static final Class<IndexOutOfBoundsException> INDEX = IndexOutOfBoundsException.class;

    public static void main(String[] args) {
        CHECK.sentence("The word (what 0), cycle (1) .. of the k-th committed one", CommittedTest::wordAndCycle);
        CHECK.sentence("what it wrote (2; STORE: the number; 0 without)", CommittedTest::whatEachKindWrote);
        CHECK.sentence("what it wrote at the ends of int", CommittedTest::lowestAndHighest);
        CHECK.sentence("The latest 400 are kept, k 0 is the oldest of these", CommittedTest::latest400);
        CHECK.sentence("across the 400th, one by one", CommittedTest::oneByOne);
        CHECK.sentence("IndexOutOfBoundsException, when there is none", CommittedTest::none);
        CHECK.sentence("IndexOutOfBoundsException, when there is .. no such what", CommittedTest::noSuchWhat);
        CHECK.end();
    }

    private static void wordAndCycle() {
        StageCycles x = Cores.core(4, 1, 1, 1, 2, 1);
        Cores.set(x, 1, 1);
        Cores.branch(x, 1, 4);
        Cores.fill(x, 2);
        Cores.stop(x);
        // the branch is fetched in cycle 2, goes on from B in 5, and leaves in 6; the STOP is fetched in 6
        x.run(100);
        CHECK.due("journal", Cores.journal(x), "0@5=1 1@6=0 4@10=0");
    }

    private static void whatEachKindWrote() {
        StageCycles x = Cores.core(3, 1, 1, 1, 1, 1);
        x.set(true, 7);
        x.word(7, 1, 0, 0, 5);
        x.word(0, 2, 1, 1, 3);
        x.word(3, 3, 1, 2, 9);
        x.word(2, 6, 1, 3, 9);
        x.word(1, 4, 1, 2, 9);
        x.word(4, 6, 0, 1, 9);
        x.word(5, 6, 1, 1, 9);
        x.word(4, 6, 1, 1, 8);
        x.word(6, 6, 1, 1, 9);
        x.run(100);
        // the FAULT (word 6, fetched in cycle 7) leaves in 10; the branch is fetched in 11, squashes in 13
        CHECK.due("journal", Cores.journal(x), "0@4=5 1@5=13 2@6=65 3@7=65 4@8=65 5@9=0 7@14=0 8@17=0");
        CHECK.due("no other register is written", x.register(6), 0);
    }

    private static void lowestAndHighest() {
        int low = Integer.MIN_VALUE;
        int high = Integer.MAX_VALUE;
        StageCycles x = Cores.core(3, 1, 1, 1, 1, 1);
        Cores.set(x, 1, low);
        Cores.set(x, 2, high);
        Cores.add(x, 3, 2, 0, 1);
        Cores.mul(x, 4, 1, 2);
        Cores.store(x, 1, 2);
        Cores.load(x, 5, 1);
        Cores.set(x, 6, -1);
        Cores.store(x, 0, 6);
        Cores.stop(x);
        x.run(100);
        int[] due = {low, high, low, low, high, high, -1, -1, 0};
        for (int k = 0; k < due.length; k++) {
            CHECK.due("committed(" + k + ", 2)", x.committed(k, 2), due[k]);
        }
    }

    private static void latest400() {
        for (int committed : new int[] {1, 2, 399, 400, 401, 402, 799, 800, 801, 1600, 5000}) {
            dueLatest(committed);
        }
    }

    /** A loop of five words that commits one in each cycle from the fourth on. */
    private static StageCycles loop() {
        StageCycles x = Cores.core(3, 1, 1, 1, 1, 1);
        for (int w = 0; w < 5; w++) {
            Cores.add(x, 1, 1, 0, w + 1);
        }
        return x;
    }

    private static void dueLatest(int committed) {
        StageCycles x = loop();
        for (int left = committed + 3; left > 0; left -= 2000) {
            x.run(Math.min(left, 2000));
        }
        int kept = Math.min(committed, 400);
        int sum = 0;
        for (int i = 0; i < committed; i++) {
            sum += i % 5 + 1;
            int k = i - (committed - kept);
            if (k >= 0 && (k < 60 || k > kept - 60 || k % 20 == 0)) {
                CHECK.due(committed + " committed, word of " + k, x.committed(k, 0), i % 5);
                CHECK.due(committed + " committed, cycle of " + k, x.committed(k, 1), i + 4);
                CHECK.due(committed + " committed, written by " + k, x.committed(k, 2), sum);
            }
        }
        CHECK.due("committed", x.count(1), committed);
        CHECK.dueThrow(committed + " committed, k " + kept, INDEX, () -> x.committed(kept, 0));
        CHECK.dueThrow(committed + " committed, k -1", INDEX, () -> x.committed(-1, 0));
    }

    private static void oneByOne() {
        StageCycles x = loop();
        x.run(400);
        for (int committed = 398; committed <= 403; committed++) {
            CHECK.due("run(1)", x.run(1), 1);
            int kept = Math.min(400, committed);
            int oldest = committed - kept;
            CHECK.due(committed + ", the oldest's word", x.committed(0, 0), oldest % 5);
            CHECK.due(committed + ", the oldest's cycle", x.committed(0, 1), oldest + 4);
            CHECK.due(committed + ", the newest's word", x.committed(kept - 1, 0), (committed - 1) % 5);
            CHECK.due(committed + ", the newest's cycle", x.committed(kept - 1, 1), committed + 3);
            CHECK.due(committed + ", the newest's sum", x.committed(kept - 1, 2), x.register(1));
            CHECK.dueThrow(committed + ", k " + kept, INDEX, () -> x.committed(kept, 0));
            CHECK.due(committed + ", count(1)", x.count(1), committed);
        }
    }

    private static void none() {
        StageCycles x = Cores.core(3, 1, 1, 1, 1, 1);
        CHECK.dueThrow("committed(0, 0) without words", INDEX, () -> x.committed(0, 0));
        Cores.set(x, 1, 1);
        CHECK.dueThrow("committed(0, 0) without cycles", INDEX, () -> x.committed(0, 0));
        x.run(3);
        CHECK.dueThrow("committed(0, 0) before the first", INDEX, () -> x.committed(0, 0));
        x.run(1);
        CHECK.due("committed(0, 0)", x.committed(0, 0), 0);
        CHECK.dueThrow("committed(1, 0) behind the first", INDEX, () -> x.committed(1, 0));
        x.run(1);
        CHECK.due("committed(1, 1)", x.committed(1, 1), 5);
        for (int k : new int[] {-1, -400, 2, 3, 399, 400, 401, Integer.MIN_VALUE, Integer.MAX_VALUE}) {
            for (int what = 0; what < 3; what++) {
                int w = what;
                CHECK.dueThrow("committed(" + k + ", " + w + ")", INDEX, () -> x.committed(k, w));
            }
        }
    }

    private static void noSuchWhat() {
        StageCycles x = Cores.core(3, 1, 1, 1, 1, 1);
        Cores.set(x, 1, 1);
        x.run(500);
        for (int what : new int[] {-1, 3, 4, Integer.MIN_VALUE, Integer.MAX_VALUE}) {
            for (int k : new int[] {0, 1, 399, -1, 400, Integer.MIN_VALUE, Integer.MAX_VALUE}) {
                CHECK.dueThrow("committed(" + k + ", " + what + ")", INDEX, () -> x.committed(k, what));
            }
        }
    }
}
