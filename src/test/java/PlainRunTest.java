import java.util.ArrayList;
import java.util.Arrays;
import java.util.List;
import java.util.Random;

/**
 * The document's first sentence, 'what leaves is what a plain run does', on made-up programs: whatever the core's
 * shape, a run that knows no stages tells which words leave, what they write, and which words in the stages are on
 * the way.
 */
public final class PlainRunTest {
    private static final Check CHECK = new Check();
    private static final int CASES = 4000;
    private static final int LONGEST = 400;

    private final Random random;
    private final String name;
    private final List<int[]> words = new ArrayList<>();
    private final List<int[]> plain = new ArrayList<>();
    private final int[] registers = new int[8];
    private final int[] memory = new int[64];
    private StageCycles core;
    private int handler;

    private PlainRunTest(int seed) {
        random = new Random(seed);
        name = "seed " + seed;
    }

    public static void main(String[] args) {
        CHECK.sentence("what leaves is what a plain run does", () -> {
            for (int seed = 0; seed < CASES && CHECK.isClean(); seed++) {
                new PlainRunTest(seed).compare();
            }
        });
        CHECK.end();
    }

    private void compare() {
        core = new StageCycles(random.nextInt(), random.nextInt(), random.nextInt(), random.nextInt(),
                random.nextInt(), random.nextInt());
        handler = random.nextInt(64);
        core.set(random.nextBoolean(), handler);
        giveWords(1 + random.nextInt(16));
        for (int piece = 0; piece < 4; piece++) {
            core.run(1 + random.nextInt(60));
            dueOnTheWay();
            dueSums();
        }
        dueLeft();
    }

    private void giveWords(int many) {
        int[] kinds = {0, 1, 2, 3, 4, 7, 0, 4, 7, random.nextInt(8), 5, 6};
        int used = random.nextInt(4) == 0 ? kinds.length : kinds.length - 1;
        for (int w = 0; w < many; w++) {
            int[] word = {kinds[random.nextInt(used)], random.nextInt(8), random.nextInt(8), random.nextInt(8),
                random.nextInt(3) == 0 ? random.nextInt() : random.nextInt(20) - 5};
            words.add(word);
            CHECK.due(name + ", word", core.word(word[0], word[1], word[2], word[3], word[4]), w);
        }
    }

    /** As many words as have left, and those on the way in the stages, are the plain run's first ones, in its order. */
    private void dueOnTheWay() {
        int left = core.count(1) + core.count(4);
        StringBuilder got = new StringBuilder();
        boolean astray = false;
        int there = 0;
        for (int s = core.count(6) - 1; s >= 0; s--) {
            int word = core.stage(s, 0);
            boolean way = core.stage(s, 1) == 1;
            there += word == StageCycles.NONE ? 0 : 1;
            CHECK.due(name + ", on the way behind one astray", way && astray, false);
            astray = astray || (word != StageCycles.NONE && !way);
            got.append(way ? word + " " : "");
        }
        while (plain.size() < left + 8 && goOn()) {
            continue;
        }
        StringBuilder due = new StringBuilder();
        for (int i = left; i < plain.size() && due.length() < got.length(); i++) {
            due.append(plain.get(i)[0]).append(' ');
        }
        CHECK.due(name + ", words on the way", got.toString(), due.toString());
        CHECK.due(name + ", fetched", core.count(2), left + core.count(3) + there);
    }

    private void dueSums() {
        int causes = 0;
        for (int cause = 0; cause < 5; cause++) {
            causes += core.cause(cause);
        }
        CHECK.due(name + ", each cycle has a cause", causes, core.count(0));
        CHECK.due(name + ", cause(0)", core.cause(0), core.count(1));
        CHECK.due(name + ", cause(1)", core.cause(1), core.count(4));
    }

    private void dueLeft() {
        plain.clear();
        Arrays.fill(registers, 0);
        Arrays.fill(memory, 0);
        int left = core.count(1) + core.count(4);
        while (plain.size() < left && goOn()) {
            continue;
        }
        CHECK.due(name + ", words that a plain run does", plain.size(), left);
        int k = 0;
        for (int[] done : plain) {
            if (words.get(done[0])[0] != 5 && k < 60) {
                CHECK.due(name + ", committed(" + k + ", 0)", core.committed(k, 0), done[0]);
                CHECK.due(name + ", committed(" + k + ", 2)", core.committed(k, 2), done[1]);
                k++;
            }
        }
        for (int r = 0; r < 8; r++) {
            CHECK.due(name + ", register(" + r + ")", core.register(r), registers[r]);
        }
        for (int at = 0; at < 64; at++) {
            CHECK.due(name + ", memory(" + at + ")", core.memory(at), memory[at]);
        }
    }

    /** A word more of the plain run, unless STOP was done: its number, what it wrote, and where it goes on. */
    private boolean goOn() {
        int[] last = plain.isEmpty() ? null : plain.get(plain.size() - 1);
        if (plain.size() >= LONGEST || (last != null && words.get(last[0])[0] == 6)) {
            return false;
        }
        int number = last == null ? 0 : last[2];
        int[] w = words.get(number);
        int a = registers[w[2]];
        int b = registers[w[3]];
        int place = a & 63;
        int[] writes = {a + b + w[4], memory[place], b, a * b, 0, 0, 0, w[4]};
        int next = (number + 1) % words.size();
        if (w[0] == 4 && a != 0) {
            next = Math.floorMod(w[4], words.size());
        } else if (w[0] == 5) {
            next = handler % words.size();
        } else if (w[0] == 2) {
            memory[place] = b;
        } else if (w[0] == 0 || w[0] == 1 || w[0] == 3 || w[0] == 7) {
            registers[w[1]] = writes[w[0]];
        }
        plain.add(new int[] {number, writes[w[0]], next});
        return true;
    }
}
