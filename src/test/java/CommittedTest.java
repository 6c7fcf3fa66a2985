/** Promise 7: committed. */
public final class CommittedTest {
    private static final Check CHECK = new Check();
    private static final Class<IndexOutOfBoundsException> INDEX = IndexOutOfBoundsException.class;

    public static void main(String[] args) {
        whatEachKindWrote();
        wrongCalls();
        for (int committed : new int[] {1, 399, 400, 401, 799, 800, 801, 1600, 5000}) {
            latest(committed);
        }
        CHECK.end();
    }

    private static void whatEachKindWrote() {
        StageCycles x = Cores.core(3, 1, 1, 1, 1, 1);
        x.set(true, 7);
        x.word(7, 1, 0, 0, 5);
        x.word(0, 2, 1, 1, 3);
        x.word(3, 3, 1, 2, 9);
        x.word(2, 6, 1, 3, 9);
        x.word(1, 4, 1, 2, 9);
        x.word(4, 6, 0, 1, 9);
        x.word(5, 6, 1, 1, 9);
        x.word(4, 6, 1, 1, 8);
        x.word(6, 6, 1, 1, 9);
        x.run(100);
        // the FAULT (word 6, fetched in cycle 7) leaves in 10; the branch is fetched in 11, squashes in 13
        CHECK.due("journal", Cores.journal(x), "0@4=5 1@5=13 2@6=65 3@7=65 4@8=65 5@9=0 7@14=0 8@17=0");
        CHECK.due("no other register is written", x.register(6), 0);
    }

    private static void wrongCalls() {
        StageCycles x = Cores.core(3, 1, 1, 1, 1, 1);
        CHECK.dueThrow("committed(0, 0) without words", INDEX, () -> x.committed(0, 0));
        Cores.set(x, 1, 1);
        x.run(3);
        CHECK.dueThrow("committed(0, 0) before the first", INDEX, () -> x.committed(0, 0));
        x.run(2);
        CHECK.due("committed(1, 1)", x.committed(1, 1), 5);
        for (int k : new int[] {-1, 2, 3, 399, 400, Integer.MIN_VALUE, Integer.MAX_VALUE}) {
            for (int what = 0; what < 3; what++) {
                int w = what;
                CHECK.dueThrow("committed(" + k + ", " + w + ")", INDEX, () -> x.committed(k, w));
            }
        }
        for (int what : new int[] {-1, 3, 4, Integer.MIN_VALUE, Integer.MAX_VALUE}) {
            CHECK.dueThrow("committed(0, " + what + ")", INDEX, () -> x.committed(0, what));
            CHECK.dueThrow("committed(1, " + what + ")", INDEX, () -> x.committed(1, what));
        }
    }

    /** A loop of five words that commits one in each cycle from the fourth on. */
    private static void latest(int committed) {
        StageCycles x = Cores.core(3, 1, 1, 1, 1, 1);
        Cores.add(x, 1, 1, 0, 1);
        for (int w = 1; w < 5; w++) {
            Cores.add(x, 1, 1, 0, w + 1);
        }
        for (int left = committed + 3; left > 0; left -= 2000) {
            x.run(Math.min(left, 2000));
        }
        int kept = Math.min(committed, 400);
        int sum = 0;
        for (int i = 0; i < committed; i++) {
            sum += i % 5 + 1;
            int k = i - (committed - kept);
            if (k >= 0 && (k < 60 || k > kept - 60 || k % 20 == 0)) {
                CHECK.due(committed + " committed, word of " + k, x.committed(k, 0), i % 5);
                CHECK.due(committed + " committed, cycle of " + k, x.committed(k, 1), i + 4);
                CHECK.due(committed + " committed, written by " + k, x.committed(k, 2), sum);
            }
        }
        CHECK.due("committed", x.count(1), committed);
        CHECK.dueThrow(committed + " committed, " + kept, INDEX, () -> x.committed(kept, 0));
    }
}
