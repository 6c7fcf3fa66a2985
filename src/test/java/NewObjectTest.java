/** Promise 1: a new object. */
public final class NewObjectTest {
    private static final Check CHECK = new Check();
    private static final int LOW = Integer.MIN_VALUE;
    private static final int HIGH = Integer.MAX_VALUE;
    /** Around 0, around each divisor there is, and the ends: where a rest may go wrong. */
    private static final int[] NUMBERS = {LOW, LOW + 1, -65, -64, -13, -12, -9, -8, -7, -6, -5, -4, -3, -2, -1, 0, 1, 2,
        3, 4, 5, 6, 7, 8, 9, 11, 12, 13, 63, 64, HIGH - 1, HIGH};

    public static void main(String[] args) {
        CHECK.sentence("N is 3 + stages modulo 6", NewObjectTest::stagesModulo6);
        CHECK.sentence("R is 1 + read modulo (N - 2)", NewObjectTest::readModulo);
        CHECK.sentence("FA .. R + alu modulo (N - R)", () -> fromReadingOn(8));
        CHECK.sentence("FL .. R + load modulo (N - R)", () -> fromReadingOn(9));
        CHECK.sentence("B .. R + branch modulo (N - R)", () -> fromReadingOn(10));
        CHECK.sentence("M is 1 + mul modulo 8", NewObjectTest::mulModulo8);
        CHECK.sentence("(rests not below 0)", NewObjectTest::restsNotBelow0);
        CHECK.sentence("every N, R, FA, FL, B, M there is", NewObjectTest::everyShape);
        CHECK.sentence("Handing forward is on", NewObjectTest::forwardIsOn);
        CHECK.sentence("H 0", NewObjectTest::handlerIs0);
        CHECK.sentence("no words", NewObjectTest::noWords);
        CHECK.sentence("nothing is done at first", NewObjectTest::nothingIsDone);
        CHECK.sentence("NONE = -1", () -> CHECK.due("NONE", StageCycles.NONE, -1));
        CHECK.end();
    }

    /** What is left when a divisor is taken away, or given, as often as it takes: told apart from the class. */
    private static int rest(long number, int divisor) {
        long rest = number % divisor;
        return (int) (rest < 0 ? rest + divisor : rest);
    }

    private static void stagesModulo6() {
        for (int stages : NUMBERS) {
            StageCycles x = new StageCycles(stages, 0, 0, 0, 0, 0);
            int n = 3 + rest(stages, 6);
            CHECK.due("stages " + stages, x.count(6), n);
            CHECK.due("stages " + stages + ", the others", x.count(7) + " " + x.count(8) + " " + x.count(11), "1 1 1");
            CHECK.due("stages " + stages + ", stage(N - 1, 0)", x.stage(n - 1, 0), -1);
            CHECK.dueThrow("stages " + stages + ", stage(N, 0)", IndexOutOfBoundsException.class, () -> x.stage(n, 0));
        }
    }

    private static void readModulo() {
        for (int n = 3; n <= 8; n++) {
            for (int read : NUMBERS) {
                StageCycles x = new StageCycles(n - 3, read, 0, 0, 0, 0);
                int r = 1 + rest(read, n - 2);
                CHECK.due("N " + n + ", read " + read, x.count(7), r);
                CHECK.due("N " + n + ", read " + read + ", FA, FL and B", x.count(8) + x.count(9) + x.count(10), 3 * r);
            }
        }
    }

    private static void fromReadingOn(int what) {
        for (int n = 3; n <= 8; n++) {
            for (int r = 1; r <= n - 2; r++) {
                for (int number : NUMBERS) {
                    StageCycles x = new StageCycles(n - 3, r - 1, what == 8 ? number : 0, what == 9 ? number : 0,
                            what == 10 ? number : 0, 0);
                    for (int other = 8; other <= 10; other++) {
                        CHECK.due("N " + n + ", R " + r + ", " + number + ", count(" + other + ")", x.count(other),
                                other == what ? r + rest(number, n - r) : r);
                    }
                }
            }
        }
    }

    private static void mulModulo8() {
        for (int mul : NUMBERS) {
            StageCycles x = new StageCycles(0, 0, 0, 0, 0, mul);
            CHECK.due("mul " + mul, x.count(11), 1 + rest(mul, 8));
            CHECK.due("mul " + mul + ", N", x.count(6), 3);
        }
    }

    private static void dueShape(String name, StageCycles x, int... shape) {
        for (int i = 0; i < 6; i++) {
            CHECK.due(name + ", count(" + (6 + i) + ")", x.count(6 + i), shape[i]);
        }
    }

    private static void restsNotBelow0() {
        dueShape("-1 -1 -1 -2 -3 -1", new StageCycles(-1, -1, -1, -2, -3, -1), 8, 6, 7, 6, 7, 8);
        dueShape("-6 -7 -1 0 1 -8", new StageCycles(-6, -7, -1, 0, 1, -8), 3, 1, 2, 1, 2, 1);
        // the lowest modulo 6 is 4, modulo 5 is 2, modulo 4 and 8 is 0; the highest modulo 6 is 1, modulo 2 is 1
        dueShape("the lowest", new StageCycles(LOW, LOW, LOW, LOW, LOW, LOW), 7, 3, 3, 3, 3, 1);
        dueShape("the highest", new StageCycles(HIGH, HIGH, HIGH, HIGH, HIGH, HIGH), 4, 2, 3, 3, 3, 8);
    }

    private static void everyShape() {
        dueShape("5 6 8 9 10 8", new StageCycles(5, 6, 8, 9, 10, 8), 8, 1, 2, 3, 4, 1);
        dueShape("2 1 2 1 0 3", new StageCycles(2, 1, 2, 1, 0, 3), 5, 2, 4, 3, 2, 4);
        for (int n = 3; n <= 8; n++) {
            for (int r = 1; r <= n - 2; r++) {
                for (int stage = r; stage <= n - 1; stage++) {
                    dueShape("N " + n + " R " + r, Cores.core(n, r, stage, r, n - 1, n), n, r, stage, r, n - 1, n);
                    dueShape("N " + n + " R " + r, Cores.core(n, r, r, stage, stage, 1), n, r, r, stage, stage, 1);
                }
            }
        }
    }

    private static void forwardIsOn() {
        CHECK.due("set(false, 0)", Cores.core(6, 1, 1, 1, 1, 1).set(false, 0), true);
        StageCycles x = Cores.core(6, 1, 1, 1, 1, 1);
        Cores.set(x, 1, 3);
        Cores.add(x, 2, 1, 1, 0);
        Cores.stop(x);
        CHECK.due("run", x.run(100), 9);
    }

    private static void handlerIs0() {
        StageCycles x = Cores.core(3, 1, 1, 1, 1, 1);
        Cores.set(x, 1, 4);
        Cores.fault(x);
        Cores.stop(x);
        // 0 is fetched in cycle 1, the fault in 2; it leaves in 5, and H is fetched in 6
        CHECK.due("run(6)", x.run(6), 6);
        CHECK.due("H", x.stage(0, 0), 0);
    }

    private static void noWords() {
        StageCycles x = Cores.core(5, 2, 3, 4, 3, 2);
        CHECK.due("words", x.count(12), 0);
        CHECK.dueThrow("run(1)", IllegalStateException.class, () -> x.run(1));
        CHECK.due("the first word's number", Cores.stop(x), 0);
    }

    private static void nothingIsDone() {
        StageCycles x = Cores.core(5, 2, 3, 4, 3, 2);
        CHECK.due("counts", Cores.counts(x), "0 0 0 0 0 0 5 2 3 4 3 2 0 0");
        CHECK.due("stages", Cores.picture(x), ". . . . .");
        CHECK.due("causes", Cores.causes(x), "0 0 0 0 0");
        for (int r = 0; r < 8; r++) {
            CHECK.due("register", x.register(r), 0);
        }
        for (int at = 0; at < 64; at++) {
            CHECK.due("memory", x.memory(at), 0);
        }
        CHECK.dueThrow("committed", IndexOutOfBoundsException.class, () -> x.committed(0, 0));
        CHECK.due("clear()", x.clear(), 0);
    }
}
