/** Terms: words, what they read and write, and what each kind does. */
public final class TermsWordsTest {
    private static final Check CHECK = new Check();
    private static final int LOW = Integer.MIN_VALUE;
    private static final int HIGH = Integer.MAX_VALUE;

    public static void main(String[] args) {
        CHECK.sentence("WORDS, up to 64, numbered from 0", TermsWordsTest::upTo64);
        CHECK.sentence("(behind the last one comes 0 again)", TermsWordsTest::behindTheLastComes0);
        CHECK.sentence("have a KIND, registers d, a, b (0 .. 7) and a number n", TermsWordsTest::allRegisters);
        CHECK.sentence("0 ADD (d is a + b, and n)", TermsWordsTest::add);
        CHECK.sentence("1 LOAD (d is memory at a modulo 64)", TermsWordsTest::load);
        CHECK.sentence("2 STORE (memory at a modulo 64 is b)", TermsWordsTest::store);
        CHECK.sentence("3 MUL (d is a * b)", TermsWordsTest::mul);
        CHECK.sentence("4 BRANCH (it GOES .. if a is not 0)", TermsWordsTest::branchGoesUnless0);
        CHECK.sentence("it GOES to word n modulo the words, not below 0", TermsWordsTest::branchTargets);
        CHECK.sentence("5 FAULT", TermsWordsTest::faultDoesNothingElse);
        CHECK.sentence("6 STOP", TermsWordsTest::stopDoesNothingElse);
        CHECK.sentence("7 SET (d is n)", TermsWordsTest::set);
        CHECK.sentence("READ are a and b of 0, 2, 3, a of 1 and 4", TermsWordsTest::whatIsRead);
        CHECK.sentence("WRITTEN is d of 0, 1, 3, 7", TermsWordsTest::whatIsWritten);
        CHECK.sentence("Registers and memory are 0 at first", TermsWordsTest::zeroAtFirst);
        CHECK.sentence("places modulo 64 are not below 0", TermsWordsTest::placesAreNotBelow0);
        CHECK.sentence("what leaves is what a plain run does", TermsWordsTest::allKindsTogether);
        CHECK.end();
    }

    private static StageCycles small() {
        return Cores.core(3, 1, 1, 1, 1, 1);
    }

    private static void upTo64() {
        StageCycles x = small();
        for (int w = 0; w < 64; w++) {
            CHECK.due("the number of a word", Cores.set(x, 1, 100 + w), w);
        }
        CHECK.dueThrow("the word behind the 64th", UnsupportedOperationException.class, () -> Cores.set(x, 1, 0));
        // word w is fetched in cycle w + 1, and leaves in w + 4
        CHECK.due("run(67)", x.run(67), 67);
        for (int w = 0; w < 64; w++) {
            CHECK.due("committed", x.committed(w, 0), w);
            CHECK.due("what was written", x.committed(w, 2), 100 + w);
        }
    }

    private static void behindTheLastComes0() {
        for (int words : new int[] {1, 2, 3, 63, 64}) {
            StageCycles x = small();
            for (int w = 0; w < words; w++) {
                Cores.set(x, 1, w);
            }
            for (int cycle = 1; cycle <= 2 * words + 3; cycle++) {
                x.run(1);
                CHECK.due(words + " words, fetched in cycle " + cycle, x.stage(0, 0), (cycle - 1) % words);
            }
        }
        branchAtTheEnd();
    }

    /** A branch that does not go, and stands at the end, is followed by word 0. */
    private static void branchAtTheEnd() {
        StageCycles x = small();
        Cores.set(x, 1, 5);
        Cores.branch(x, 0, 1);
        Cores.dueCycles(CHECK, "a branch at the end", x, "4: 0 . .", "4: 1 0 .", "4: 0 1 0", "0: 1 0 1", "0: 0 1 0");
    }

    private static void allRegisters() {
        for (int r = 0; r < 8; r++) {
            int other = (r + 3) % 8;
            int third = (r + 5) % 8;
            StageCycles x = small();
            Cores.set(x, r, 5);
            Cores.add(x, other, r, third, 2);
            Cores.mul(x, third, other, r);
            Cores.store(x, r, third);
            Cores.load(x, other, r);
            Cores.add(x, r, r, r, r);
            Cores.branch(x, r, 7);
            Cores.stop(x);
            x.run(100);
            CHECK.due("registers " + r + ", " + other + ", " + third, Cores.journal(x).replaceAll("@[0-9]*", ""),
                    "0=5 1=7 2=35 3=35 4=35 5=" + (10 + r) + " 6=0 7=0");
            CHECK.due("went", x.count(13), 1);
            for (int q = 0; q < 8; q++) {
                int due = q == r ? 10 + r : q == other || q == third ? 35 : 0;
                CHECK.due("register(" + q + ")", x.register(q), due);
            }
        }
    }

    /** What a word of this kind writes into register 3 when registers 1 and 2 have these numbers. */
    private static int written(int kind, int a, int b, int n) {
        StageCycles x = small();
        Cores.set(x, 1, a);
        Cores.set(x, 2, b);
        x.word(kind, 3, 1, 2, n);
        Cores.stop(x);
        x.run(100);
        CHECK.due("register(3) and what was written", x.register(3), x.committed(2, 2));
        return x.register(3);
    }

    private static void add() {
        CHECK.due("2 + 3, and 4", written(0, 2, 3, 4), 9);
        CHECK.due("0 + 0, and -1", written(0, 0, 0, -1), -1);
        CHECK.due("highest + 1", written(0, HIGH, 1, 0), LOW);
        CHECK.due("highest, and 1", written(0, HIGH, 0, 1), LOW);
        CHECK.due("lowest - 1", written(0, LOW, -1, 0), HIGH);
        CHECK.due("lowest + lowest", written(0, LOW, LOW, 0), 0);
        CHECK.due("highest + highest, and highest", written(0, HIGH, HIGH, HIGH), HIGH - 2);
        StageCycles x = small();
        Cores.set(x, 1, 4);
        Cores.add(x, 1, 1, 1, 1);
        Cores.stop(x);
        x.run(100);
        CHECK.due("d is a and b too", x.register(1), 9);
    }

    /** A number stored at a place is loaded by every number that is the place modulo 64. */
    private static void load() {
        int[] numbers = {0, 1, 62, 63, 64, 65, 127, 128, HIGH, HIGH - 63};
        int[] places = {0, 1, 62, 63, 0, 1, 63, 0, 63, 0};
        for (int i = 0; i < numbers.length; i++) {
            dueLoaded(numbers[i], places[i]);
        }
    }

    private static void dueLoaded(int number, int place) {
        for (int at : new int[] {place, (place + 1) % 64, (place + 63) % 64}) {
            StageCycles x = small();
            Cores.set(x, 1, at);
            Cores.set(x, 2, 777);
            Cores.store(x, 1, 2);
            Cores.set(x, 3, number);
            Cores.load(x, 4, 3);
            Cores.stop(x);
            x.run(100);
            CHECK.due("777 at " + at + ", loaded from " + number, x.register(4), at == place ? 777 : 0);
            CHECK.due("what the LOAD wrote", x.committed(4, 2), at == place ? 777 : 0);
        }
    }

    private static void store() {
        int[] numbers = {0, 1, 62, 63, 64, 65, 127, 128, HIGH, HIGH - 63};
        int[] places = {0, 1, 62, 63, 0, 1, 63, 0, 63, 0};
        for (int i = 0; i < numbers.length; i++) {
            dueStored(numbers[i], places[i]);
        }
    }

    private static void dueStored(int number, int place) {
        StageCycles x = small();
        Cores.set(x, 1, number);
        Cores.set(x, 2, LOW);
        x.word(2, 2, 1, 2, 9);
        Cores.stop(x);
        x.run(100);
        for (int at = 0; at < 64; at++) {
            CHECK.due("stored at " + number + ", memory(" + at + ")", x.memory(at), at == place ? LOW : 0);
        }
        CHECK.due("a STORE writes no register", x.register(2), LOW);
        CHECK.due("a STORE writes no register", x.register(0), 0);
    }

    private static void mul() {
        CHECK.due("6 * 7, without n", written(3, 6, 7, 5), 42);
        CHECK.due("-6 * 7", written(3, -6, 7, 0), -42);
        CHECK.due("65536 * 65536", written(3, 65536, 65536, 0), 0);
        CHECK.due("65536 * 32768", written(3, 65536, 32768, 0), LOW);
        CHECK.due("lowest * -1", written(3, LOW, -1, 0), LOW);
        CHECK.due("highest * highest", written(3, HIGH, HIGH, 0), 1);
        CHECK.due("highest * 2", written(3, HIGH, 2, 0), -2);
        CHECK.due("0 * lowest", written(3, 0, LOW, 0), 0);
    }

    private static void branchGoesUnless0() {
        for (int a : new int[] {0, 1, -1, 2, 64, 256, 65536, LOW, HIGH}) {
            StageCycles x = small();
            Cores.set(x, 1, a);
            Cores.branch(x, 1, 3);
            Cores.set(x, 2, 2);
            Cores.stop(x);
            x.run(100);
            CHECK.due("a is " + a + ", register(2)", x.register(2), a == 0 ? 2 : 0);
            CHECK.due("a is " + a + ", branches that went", x.count(13), a == 0 ? 0 : 1);
            CHECK.due("a is " + a + ", committed", x.count(1), a == 0 ? 4 : 3);
        }
        StageCycles y = small();
        Cores.set(y, 1, 1);
        y.word(4, 1, 0, 1, 0);
        Cores.stop(y);
        y.run(100);
        CHECK.due("b and d are not 0, a is: branches that went", y.count(13), 0);
    }

    private static void branchTargets() {
        for (int words : new int[] {2, 3, 5, 63, 64}) {
            int[] targets = {0, 1, words - 1, words, words + 1, 2 * words, -1, -words, -words - 1, -words + 1, 63, 64,
                -64, 1000000007, LOW, LOW + 1, HIGH, HIGH - 1};
            for (int n : targets) {
                dueTarget(words, n);
            }
        }
    }

    private static void dueTarget(int words, int n) {
        StageCycles x = small();
        Cores.set(x, 1, 1);
        Cores.branch(x, 1, n);
        Cores.fill(x, words - 2);
        // the branch is fetched in cycle 2, goes on from stage 1 in 4, and its target is fetched in 5
        Cores.dueCycles(CHECK, words + " words, n " + n, x, "4: 0 . .", "4: 1 0 .", "4: " + 2 % words + "* 1 0",
                "0: . . 1");
        long target = ((long) n % words + words) % words;
        Cores.dueCycles(CHECK, words + " words, n " + n, x, "0: " + target + " . .");
    }

    private static void faultDoesNothingElse() {
        StageCycles x = small();
        x.set(true, 3);
        Cores.set(x, 1, 1);
        Cores.set(x, 2, 2);
        x.word(5, 1, 2, 1, 0);
        x.word(6, 1, 2, 1, 9);
        x.run(100);
        CHECK.due("a FAULT writes no register", x.register(1), 1);
        CHECK.due("a FAULT writes no memory", x.memory(2), 0);
        CHECK.due("a FAULT is no branch", x.count(13), 0);
        CHECK.due("faults", x.count(4), 1);
        CHECK.due("committed", Cores.journal(x).replaceAll("@[0-9]*", ""), "0=1 1=2 3=0");
    }

    private static void stopDoesNothingElse() {
        StageCycles x = small();
        Cores.set(x, 1, 1);
        Cores.set(x, 2, 2);
        x.word(6, 1, 2, 1, 0);
        CHECK.due("run", x.run(100), 6);
        CHECK.due("a STOP writes no register", x.register(1), 1);
        CHECK.due("a STOP writes no memory", x.memory(2), 0);
        CHECK.due("what a STOP wrote", x.committed(2, 2), 0);
        CHECK.due("a STOP is no branch", x.count(13), 0);
    }

    private static void set() {
        for (int n : new int[] {0, 1, -1, 63, 64, -64, LOW, HIGH}) {
            CHECK.due("n is " + n, written(7, 4, 5, n), n);
        }
    }

    /** Whether a word waits for register 1 behind a writer of it that is there only when it has left. */
    private static boolean waits(int writer, int kind, int d, int a, int b) {
        StageCycles x = Cores.core(4, 1, 3, 3, 3, 1);
        x.word(writer, 1, 0, 0, 0);
        x.word(kind, d, a, b, 0);
        Cores.set(x, 7, 7);
        x.run(4);
        return x.cause(2) == 1;
    }

    private static void whatIsRead() {
        boolean[] readsA = {true, true, true, true, true, false, false, false};
        boolean[] readsB = {true, false, true, true, false, false, false, false};
        for (int kind = 0; kind < 8; kind++) {
            CHECK.due("kind " + kind + " waits for a", waits(7, kind, 2, 1, 2), readsA[kind]);
            CHECK.due("kind " + kind + " waits for b", waits(7, kind, 2, 2, 1), readsB[kind]);
            CHECK.due("kind " + kind + " waits for a and b", waits(7, kind, 2, 1, 1), readsA[kind]);
            CHECK.due("kind " + kind + " waits for d", waits(7, kind, 1, 2, 2), false);
            CHECK.due("kind " + kind + " waits for neither", waits(7, kind, 2, 2, 2), false);
        }
    }

    private static void whatIsWritten() {
        boolean[] writes = {true, true, false, true, false, false, false, true};
        for (int kind = 0; kind < 8; kind++) {
            // a STOP on the way has nothing behind it
            if (kind != 6) {
                CHECK.due("kind " + kind + " writes d", waits(kind, 0, 3, 1, 1), writes[kind]);
                CHECK.due("kind " + kind + " writes another", waits(kind, 0, 1, 2, 3), false);
            }
        }
        StageCycles x = Cores.core(8, 1, 7, 7, 7, 1);
        Cores.set(x, 4, 1);
        Cores.fill(x, 8);
        x.word(4, 1, 4, 1, 0);
        x.word(6, 1, 1, 1, 0);
        Cores.add(x, 3, 1, 1, 0);
        // the ADD, astray behind a STOP that is astray, is fetched in cycle 12, and goes on from R in 14
        x.run(14);
        CHECK.due("the ADD goes on", x.stage(2, 0), 11);
        CHECK.due("cycles without operands", x.cause(2), 0);
    }

    private static void zeroAtFirst() {
        StageCycles x = small();
        for (int r = 0; r < 8; r++) {
            CHECK.due("register(" + r + ")", x.register(r), 0);
            Cores.add(x, r, r, r, 0);
            Cores.branch(x, r, 0);
        }
        for (int at = 0; at < 64; at++) {
            CHECK.due("memory(" + at + ")", x.memory(at), 0);
        }
        x.run(40);
        CHECK.due("branches that went", x.count(13), 0);
        for (int r = 0; r < 8; r++) {
            CHECK.due("register(" + r + ") + itself", x.register(r), 0);
        }
        loadsOfMemoryAtFirst();
    }

    /** A loop that loads one place behind the other, with a branch that goes if one is not 0. */
    private static void loadsOfMemoryAtFirst() {
        StageCycles x = small();
        Cores.load(x, 1, 2);
        Cores.add(x, 2, 2, 0, 1);
        Cores.branch(x, 1, 3);
        x.run(200);
        CHECK.due("branches that went", x.count(13), 0);
        CHECK.due("more than 64 places were looked at", x.register(2) > 64, true);
    }

    private static void placesAreNotBelow0() {
        int[] numbers = {-1, -2, -63, -64, -65, -128, LOW, LOW + 1, LOW + 63};
        int[] places = {63, 62, 1, 0, 63, 0, 0, 1, 63};
        for (int i = 0; i < numbers.length; i++) {
            dueStored(numbers[i], places[i]);
            dueLoaded(numbers[i], places[i]);
        }
    }

    private static void allKindsTogether() {
        StageCycles x = Cores.core(5, 2, 3, 3, 3, 2);
        Cores.set(x, 1, -3);
        Cores.set(x, 2, HIGH);
        Cores.add(x, 3, 2, 1, 5);
        Cores.mul(x, 4, 2, 1);
        Cores.store(x, 1, 4);
        Cores.load(x, 5, 1);
        Cores.set(x, 6, 61);
        Cores.load(x, 7, 6);
        Cores.add(x, 0, 7, 5, 0);
        Cores.branch(x, 0, -1);
        Cores.set(x, 1, 99);
        Cores.stop(x);
        x.run(200);
        int product = HIGH * -3;
        int[] due = {2 * product, -3, HIGH, LOW + 1, product, product, 61, product};
        for (int r = 0; r < 8; r++) {
            CHECK.due("register " + r, x.register(r), due[r]);
        }
        CHECK.due("memory at -3 modulo 64", x.memory(61), product);
        CHECK.due("a branch to -1 goes to the last word", x.committed(x.count(1) - 1, 0), 11);
        CHECK.due("the word before it is passed over", x.count(1), 11);
        longLoop();
    }

    private static void longLoop() {
        StageCycles x = small();
        Cores.add(x, 1, 1, 2, 1);
        Cores.add(x, 2, 1, 2, 1);
        x.run(2000);
        CHECK.due("committed in a loop", x.count(1), 1997);
        int one = 0;
        int two = 0;
        for (int i = 0; i < 1997; i++) {
            one = i % 2 == 0 ? one + two + 1 : one;
            two = i % 2 == 1 ? one + two + 1 : two;
        }
        CHECK.due("register 1", x.register(1), one);
        CHECK.due("register 2", x.register(2), two);
    }
}
