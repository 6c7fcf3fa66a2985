/** Terms: the core, in every shape. */
public final class TermsCoreTest {
    private static final Check CHECK = new Check();

    private interface Shape {
        void of(int n, int r, int stage);
    }

    public static void main(String[] args) {
        CHECK.sentence("THE CORE has N STAGES, 0 .. N - 1", TermsCoreTest::stages);
        CHECK.sentence("a READING stage R (1 .. N - 2)", () -> allShapes(TermsCoreTest::waitsInReading));
        CHECK.sentence("results of ADD .. are there behind stage FA", () -> allShapesOfWriter(0));
        CHECK.sentence("results of .. MUL .. are there behind stage FA", () -> allShapesOfWriter(3));
        CHECK.sentence("results of .. SET are there behind stage FA", () -> allShapesOfWriter(7));
        CHECK.sentence("of LOAD behind FL (R .. N - 1 each)", () -> allShapesOfWriter(1));
        CHECK.sentence("branches are known behind stage B (R .. N - 1)", () -> allShapes(TermsCoreTest::known));
        CHECK.sentence("MUL works M cycles in R (1 .. 8)", TermsCoreTest::mulWorks);
        CHECK.sentence("others 1", TermsCoreTest::othersWorkOneCycle);
        CHECK.sentence("HANDING FORWARD is on or off", TermsCoreTest::forwardOnOrOff);
        CHECK.sentence("A FAULT goes on at word H", TermsCoreTest::faultGoesOnAtH);
        CHECK.end();
    }

    /** Every N and R, and every stage from R to N - 1. */
    private static void allShapes(Shape shape) {
        for (int n = 3; n <= 8; n++) {
            for (int r = 1; r <= n - 2; r++) {
                for (int stage = r; stage <= n - 1; stage++) {
                    shape.of(n, r, stage);
                }
            }
        }
    }

    private static void allShapesOfWriter(int kind) {
        allShapes((n, r, stage) -> there(kind, n, r, stage));
    }

    private static void stages() {
        for (int n = 3; n <= 8; n++) {
            StageCycles x = Cores.core(n, 1, 1, 1, 1, 1);
            Cores.stop(x);
            for (int s = 0; s < n; s++) {
                x.run(1);
                for (int other = 0; other < n; other++) {
                    CHECK.due("N " + n + ", cycle " + x.count(0) + ", stage " + other, x.stage(other, 0),
                            other == s ? 0 : -1);
                }
            }
            CHECK.due("N " + n + ", run", x.run(100), 1);
            CHECK.due("N " + n + ", cycle of the STOP", x.committed(0, 1), n + 1);
            CHECK.dueThrow("stage(N, 0)", IndexOutOfBoundsException.class, () -> x.stage(x.count(6), 0));
        }
    }

    /** Without handing forward the ADD stays in R until the SET has left. */
    private static void waitsInReading(int n, int r, int stage) {
        StageCycles x = Cores.core(n, r, stage, stage, stage, 1);
        x.set(false, 0);
        Cores.set(x, 1, 4);
        Cores.add(x, 2, 1, 1, 0);
        Cores.fill(x, 1);
        String name = "N " + n + ", R " + r + ", ";
        // the SET goes on from R in cycle 2 + r, and leaves in n + 1: from there on the ADD is free
        x.run(2 + r);
        CHECK.due(name + "the ADD gets there", x.stage(r, 0), 1);
        for (int cycle = 3 + r; cycle <= n; cycle++) {
            x.run(1);
            CHECK.due(name + "the ADD waits", x.stage(r, 0), 1);
        }
        CHECK.due(name + "waiting cycles", x.cause(2), n - 2 - r);
        x.run(1);
        CHECK.due(name + "the ADD goes on", x.stage(r + 1, 0), 1);
        CHECK.due(name + "waiting cycles", x.cause(2), n - 2 - r);
    }

    /** The waiting of an ADD behind a writer of this kind whose results are there behind a stage. */
    private static void there(int kind, int n, int r, int stage) {
        int opposite = stage == r ? n - 1 : r;
        StageCycles x = kind == 1 ? Cores.core(n, r, opposite, stage, r, 1) : Cores.core(n, r, stage, opposite, r, 1);
        x.word(kind, 1, 2, 2, 6);
        Cores.add(x, 3, 1, 1, 0);
        Cores.stop(x);
        String name = "kind " + kind + ", N " + n + ", R " + r + ", behind " + stage + ", ";
        // the writer is in stage 1 + r + i once it went on in the i-th cycle that the ADD is in R
        int waiting = Math.max(1, stage - r) - 1;
        CHECK.due(name + "cycles", x.run(100), n + 3 + waiting);
        CHECK.due(name + "waiting cycles", x.cause(2), waiting);
        CHECK.due(name + "sum", x.register(3), kind == 0 || kind == 7 ? 12 : 0);
    }

    private static void known(int n, int r, int stage) {
        StageCycles x = Cores.core(n, r, r, r, stage, 1);
        Cores.set(x, 1, 1);
        Cores.branch(x, 1, 15);
        Cores.fill(x, 20);
        String name = "N " + n + ", R " + r + ", B " + stage + ", ";
        // the branch is fetched in cycle 2, and is in stage s at the beginning of cycle 3 + s
        for (int cycle = 1; cycle < 3 + stage; cycle++) {
            x.run(1);
            CHECK.due(name + "fetched", x.stage(0, 0), cycle - 1);
        }
        CHECK.due(name + "squashed before it is known", x.count(3), 0);
        x.run(1);
        CHECK.due(name + "squashed", x.count(3), stage);
        for (int s = 0; s <= stage; s++) {
            CHECK.due(name + "stage " + s, x.stage(s, 0), -1);
        }
        CHECK.due(name + "the branch goes on", stage < n - 1 ? x.stage(stage + 1, 0) : x.committed(1, 0), 1);
        x.run(1);
        CHECK.due(name + "fetched then", x.stage(0, 0), 15);
    }

    private static void mulWorks() {
        for (int m = 1; m <= 8; m++) {
            StageCycles x = Cores.core(4, 2, 2, 2, 2, m);
            Cores.mul(x, 1, 1, 1);
            Cores.stop(x);
            // it gets into R in cycle 3, and works from 4 on
            x.run(2 + m);
            CHECK.due("M " + m + ", before the last cycle of work", x.stage(2, 0), 0);
            x.run(1);
            CHECK.due("M " + m + ", behind it", x.stage(3, 0), 0);
            CHECK.due("M " + m + ", run to the end", x.run(100), 2);
            CHECK.due("M " + m + ", working cycles", x.cause(3), m - 1);
        }
        mulsBehindEachOther();
    }

    private static void mulsBehindEachOther() {
        StageCycles x = Cores.core(7, 1, 1, 1, 1, 4);
        Cores.set(x, 1, 3);
        Cores.set(x, 2, 5);
        Cores.mul(x, 3, 1, 2);
        Cores.mul(x, 3, 3, 3);
        Cores.dueCycles(CHECK, "M 4", x, "4: 0 . . . . . .", "4: 1 0 . . . . .", "4: 2 1 0 . . . .",
                "4: 3 2 1 0 . . .", "3: 3 2 . 1 0 . .", "3: 3 2 . . 1 0 .", "3: 3 2 . . . 1 0", "0: 0 3 2 . . . 1",
                "0: 0 3 . 2 . . .", "3: 0 3 . . 2 . .", "3: 0 3 . . . 2 .", "4: 1 0 3 . . . 2", "0: 2 1 0 3 . . .");
        CHECK.due("M 4", Cores.journal(x), "0@8=3 1@9=5 2@13=15");
    }

    private static void othersWorkOneCycle() {
        for (int kind = 0; kind < 8; kind++) {
            if (kind != 3) {
                StageCycles x = Cores.core(4, 2, 2, 2, 2, 8);
                x.word(kind, 1, 2, 2, 0);
                Cores.fill(x, 1);
                x.run(3);
                CHECK.due("kind " + kind + " in R", x.stage(2, 0), 0);
                x.run(1);
                CHECK.due("kind " + kind + " behind R", x.stage(3, 0), 0);
                CHECK.due("kind " + kind + ", working cycles", x.cause(3), 0);
            }
        }
    }

    private static void forwardOnOrOff() {
        for (int kind : new int[] {0, 1, 3, 7}) {
            for (int on = 0; on < 2; on++) {
                StageCycles x = Cores.core(6, 1, 1, 1, 1, 1);
                x.set(on == 1, 0);
                x.word(kind, 1, 2, 2, 5);
                Cores.add(x, 3, 1, 1, 0);
                Cores.stop(x);
                CHECK.due("kind " + kind + ", handing forward " + on, x.run(100), on == 1 ? 9 : 12);
                CHECK.due("kind " + kind + ", waiting cycles", x.cause(2), on == 1 ? 0 : 3);
            }
        }
    }

    private static void faultGoesOnAtH() {
        for (int h = 0; h < 64; h++) {
            StageCycles x = Cores.core(4, 1, 1, 1, 1, 1);
            x.set(true, h);
            for (int w = 0; w < 64; w++) {
                x.word(w == 1 ? 5 : 7, 1, 0, 0, w);
            }
            x.run(6);
            CHECK.due("H " + h + ", faults", x.count(4), 1);
            x.run(1);
            CHECK.due("H " + h, Cores.picture(x), h + " . . .");
        }
    }
}
