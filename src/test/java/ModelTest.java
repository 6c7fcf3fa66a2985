import java.util.Random;

/** Promises 1 to 11 on many programs: what the class answers is what the model in ModelCore answers. */
public final class ModelTest {
    private static final Check CHECK = new Check();
    private static final int CASES = 6000;
    private static int calls;

    public static void main(String[] args) {
        for (int seed = 0; seed < CASES && CHECK.isClean(); seed++) {
            int words = wordsOf(new Random(seed));
            stepByStep(seed);
            CHECK.due("seed " + seed + ", calls are at most 512", calls <= 512 ? 1 : 0, 1);
            atTheEnd(seed, words);
            CHECK.due("seed " + seed + ", calls are at most 512", calls <= 512 ? 1 : 0, 1);
        }
        CHECK.end();
    }

    private static int wordsOf(Random random) {
        int[] most = {3, 8, 20, 64};
        return 1 + random.nextInt(most[random.nextInt(4)]);
    }

    /** The same seed always gives the same pair of a core and a model with the same words. */
    private static StageCycles build(Random random, ModelCore[] model) {
        int words = wordsOf(random);
        int n = 3 + random.nextInt(6);
        int r = 1 + random.nextInt(n - 2);
        int alu = r + random.nextInt(n - r);
        int load = r + random.nextInt(n - r);
        int branch = r + random.nextInt(n - r);
        int mul = 1 + random.nextInt(8);
        StageCycles x = Cores.core(n, r, alu, load, branch, mul);
        ModelCore m = new ModelCore(n, r, alu, load, branch, mul);
        calls = 0;
        if (random.nextInt(3) > 0) {
            m.forward = random.nextBoolean();
            m.handler = random.nextInt(64);
            x.set(m.forward, m.handler);
            calls++;
        }
        int registers = 2 + random.nextInt(7);
        int rare = 1 + random.nextInt(40);
        for (int w = 0; w < words; w++) {
            ModelCore.Word word = word(random, registers, rare);
            m.words.add(word);
            CHECK.due("word", x.word(word.kind, word.d, word.a, word.b, word.n), w);
            calls++;
        }
        model[0] = m;
        return x;
    }

    private static ModelCore.Word word(Random random, int registers, int rare) {
        int[] common = {0, 1, 2, 3, 4, 7, 0, 1};
        int kind = common[random.nextInt(8)];
        if (random.nextInt(rare) == 0) {
            kind = 4 + random.nextInt(3);
        }
        int limit = Math.min(registers, 8);
        int n = random.nextInt(4) == 0 ? random.nextInt() : random.nextInt(7) - 3;
        if (kind == 4 && random.nextBoolean()) {
            n = random.nextInt(64);
        }
        return new ModelCore.Word(kind, random.nextInt(limit), random.nextInt(limit), random.nextInt(limit), n);
    }

    private static void advance(String name, StageCycles x, ModelCore m, int n) {
        int due = 0;
        while (due < n && !m.stopped) {
            m.cycle();
            due++;
        }
        CHECK.due(name + ", run(" + n + ")", x.run(n), due);
        calls++;
    }

    private static void stepByStep(int seed) {
        Random random = new Random(seed);
        ModelCore[] model = new ModelCore[1];
        StageCycles x = build(random, model);
        ModelCore m = model[0];
        int longest = random.nextInt(4) == 0 ? 60 : 3;
        for (int step = 0; step < 10 && CHECK.isClean(); step++) {
            String name = "seed " + seed + ", step " + step;
            advance(name, x, m, 1 + random.nextInt(longest));
            for (int s = 0; s < m.stages; s++) {
                ModelCore.Flight flight = m.in(s);
                CHECK.due(name + ", stage(" + s + ", 0)", x.stage(s, 0), flight == null ? -1 : flight.number);
                CHECK.due(name + ", stage(" + s + ", 1)", x.stage(s, 1), flight != null && flight.way ? 1 : 0);
                calls += 2;
            }
            dueCounts(name, x, m);
        }
    }

    private static void dueCounts(String name, StageCycles x, ModelCore m) {
        int[] due = {m.cycles, m.committed.size(), m.fetched, m.squashed, m.faults, m.stopped ? 1 : 0, m.stages,
            m.reading, m.alu, m.load, m.branch, m.mul, m.words.size(), m.went, -1};
        for (int what = 0; what < due.length; what++) {
            CHECK.due(name + ", count(" + what + ")", x.count(what), due[what]);
            calls++;
        }
        for (int cause = 0; cause < 5; cause++) {
            CHECK.due(name + ", cause(" + cause + ")", x.cause(cause), m.causes[cause]);
            calls++;
        }
    }

    private static void atTheEnd(int seed, int words) {
        Random random = new Random(seed);
        ModelCore[] model = new ModelCore[1];
        StageCycles x = build(random, model);
        ModelCore m = model[0];
        String name = "seed " + seed + ", end";
        CHECK.due("words", m.words.size(), words);
        advance(name, x, m, 1 + random.nextInt(100));
        advance(name, x, m, 1 + random.nextInt(seed % 10 == 0 ? 2000 : 50));
        for (int r = 0; r < 8; r++) {
            CHECK.due(name + ", register(" + r + ")", x.register(r), m.registers[r]);
        }
        for (int at = 0; at < 64; at++) {
            CHECK.due(name + ", memory(" + at + ")", x.memory(at), m.memory[at]);
        }
        calls += 72;
        int kept = Math.min(400, m.committed.size());
        int stride = 1 + kept / 100;
        for (int k = 0; k < kept; k += stride) {
            int[] entry = m.committed.get(m.committed.size() - kept + k);
            for (int what = 0; what < 3; what++) {
                CHECK.due(name + ", committed(" + k + ", " + what + ")", x.committed(k, what), entry[what]);
                calls++;
            }
        }
        CHECK.dueThrow(name + ", committed", IndexOutOfBoundsException.class, () -> x.committed(kept, 0));
        calls++;
        CHECK.due(name + ", clear()", x.clear(), m.cycles);
        calls++;
    }
}
