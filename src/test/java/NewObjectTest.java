/** Promise 1: a new object. */
public final class NewObjectTest {
    private static final Check CHECK = new Check();

    public static void main(String[] args) {
        dueShape("0 0 0 0 0 0", new StageCycles(0, 0, 0, 0, 0, 0), 3, 1, 1, 1, 1, 1);
        dueShape("5 5 1 1 1 7", new StageCycles(5, 5, 1, 1, 1, 7), 8, 6, 7, 7, 7, 8);
        dueShape("5 6 8 9 10 8", new StageCycles(5, 6, 8, 9, 10, 8), 8, 1, 2, 3, 4, 1);
        dueShape("6 1 2 3 4 9", new StageCycles(6, 1, 2, 3, 4, 9), 3, 1, 1, 2, 1, 2);
        dueShape("2 1 2 1 0 3", new StageCycles(2, 1, 2, 1, 0, 3), 5, 2, 4, 3, 2, 4);
        dueShape("-1 -1 -1 -2 -3 -1", new StageCycles(-1, -1, -1, -2, -3, -1), 8, 6, 7, 6, 7, 8);
        dueShape("-6 -7 -1 0 1 -8", new StageCycles(-6, -7, -1, 0, 1, -8), 3, 1, 2, 1, 2, 1);
        edges();
        everyShape();
        fresh();
        constants();
        CHECK.end();
    }

    private static void dueShape(String name, StageCycles x, int... shape) {
        for (int i = 0; i < 6; i++) {
            CHECK.due("new StageCycles(" + name + "), count(" + (6 + i) + ")", x.count(6 + i), shape[i]);
        }
    }

    private static void edges() {
        int low = Integer.MIN_VALUE;
        int high = Integer.MAX_VALUE;
        // low modulo 6 is 4, modulo 5 is 2; high modulo 6 is 1
        dueShape("lowest", new StageCycles(low, low, low, low, low, low), 7, 3, 3, 3, 3, 1);
        dueShape("highest", new StageCycles(high, high, high, high, high, high), 4, 2, 3, 3, 3, 8);
    }

    private static void everyShape() {
        for (int n = 3; n <= 8; n++) {
            for (int r = 1; r <= n - 2; r++) {
                for (int stage = r; stage <= n - 1; stage++) {
                    dueShape("N " + n + " R " + r, Cores.core(n, r, stage, r, n - 1, n), n, r, stage, r, n - 1, n);
                    dueShape("N " + n + " R " + r, Cores.core(n, r, r, stage, stage, 1), n, r, r, stage, stage, 1);
                }
            }
        }
    }

    private static void fresh() {
        StageCycles x = Cores.core(5, 2, 3, 4, 3, 2);
        for (int what : new int[] {0, 1, 2, 3, 4, 5, 12, 13}) {
            CHECK.due("fresh count(" + what + ")", x.count(what), 0);
        }
        CHECK.due("fresh stages", Cores.picture(x), ". . . . .");
        CHECK.due("fresh causes", Cores.causes(x), "0 0 0 0 0");
        for (int r = 0; r < 8; r++) {
            CHECK.due("fresh register", x.register(r), 0);
        }
        for (int at = 0; at < 64; at++) {
            CHECK.due("fresh memory", x.memory(at), 0);
        }
        CHECK.dueThrow("fresh committed", IndexOutOfBoundsException.class, () -> x.committed(0, 0));
        CHECK.due("handing forward is on at first", x.set(true, 0) ? 1 : 0, 1);
        handlerAtFirst();
    }

    private static void handlerAtFirst() {
        StageCycles x = Cores.core(3, 1, 1, 1, 1, 1);
        Cores.set(x, 1, 4);
        Cores.fault(x);
        Cores.stop(x);
        // 0 is fetched in cycle 1, the fault in 2; it leaves in 5, and H is fetched in 6
        CHECK.due("run(6)", x.run(6), 6);
        CHECK.due("H is 0 at first", x.stage(0, 0), 0);
    }

    private static void constants() {
        CHECK.due("NONE", StageCycles.NONE, -1);
    }
}
