/** Cores of a wanted shape, words by name, and what the stages show. */
final class Cores {
    private Cores() {
    }

    /** The arguments are N, R, FA, FL, B and M themselves. */
    static StageCycles core(int stages, int reading, int alu, int load, int branch, int mul) {
        return new StageCycles(stages - 3, reading - 1, alu - reading, load - reading, branch - reading, mul - 1);
    }

    static int add(StageCycles x, int d, int a, int b, int n) {
        return x.word(0, d, a, b, n);
    }

    static int load(StageCycles x, int d, int a) {
        return x.word(1, d, a, 0, 0);
    }

    static int store(StageCycles x, int a, int b) {
        return x.word(2, 0, a, b, 0);
    }

    static int mul(StageCycles x, int d, int a, int b) {
        return x.word(3, d, a, b, 0);
    }

    static int branch(StageCycles x, int a, int n) {
        return x.word(4, 0, a, 0, n);
    }

    static int fault(StageCycles x) {
        return x.word(5, 0, 0, 0, 0);
    }

    static int stop(StageCycles x) {
        return x.word(6, 0, 0, 0, 0);
    }

    static int set(StageCycles x, int d, int n) {
        return x.word(7, d, 0, 0, n);
    }

    /** A word that reads nothing, and sets register 7 to 0. */
    static int fill(StageCycles x) {
        return set(x, 7, 0);
    }

    static void fill(StageCycles x, int words) {
        for (int w = 0; w < words; w++) {
            fill(x);
        }
    }

    /** The words in the stages from 0 on: '.' an empty one, '*' behind one that is astray. */
    static String picture(StageCycles x) {
        StringBuilder text = new StringBuilder();
        int stages = x.count(6);
        for (int s = 0; s < stages; s++) {
            int word = x.stage(s, 0);
            text.append(s == 0 ? "" : " ").append(word == StageCycles.NONE ? "." : "" + word);
            text.append(word != StageCycles.NONE && x.stage(s, 1) == 0 ? "*" : "");
        }
        return text.toString();
    }

    /** The committed words as word@cycle=written. */
    static String journal(StageCycles x) {
        StringBuilder text = new StringBuilder();
        int kept = Math.min(400, x.count(1));
        for (int k = 0; k < kept; k++) {
            text.append(k == 0 ? "" : " ").append(x.committed(k, 0)).append('@').append(x.committed(k, 1));
            text.append('=').append(x.committed(k, 2));
        }
        return text.toString();
    }

    static String causes(StageCycles x) {
        StringBuilder text = new StringBuilder();
        for (int c = 0; c < 5; c++) {
            text.append(c == 0 ? "" : " ").append(x.cause(c));
        }
        return text.toString();
    }

    static String counts(StageCycles x) {
        StringBuilder text = new StringBuilder();
        for (int what = 0; what < 14; what++) {
            text.append(what == 0 ? "" : " ").append(x.count(what));
        }
        return text.toString();
    }

    /** All that an object shows: some 120 calls, and three for each committed word. */
    static String all(StageCycles x) {
        StringBuilder text = new StringBuilder();
        text.append(counts(x)).append(" / ").append(causes(x)).append(" / ").append(picture(x)).append(" / ");
        for (int r = 0; r < 8; r++) {
            text.append(x.register(r)).append(' ');
        }
        text.append("/ ");
        for (int at = 0; at < 64; at++) {
            text.append(x.memory(at)).append(' ');
        }
        return text.append("/ ").append(journal(x)).toString();
    }

    /** An empty core's picture. */
    static String empty(int stages) {
        return ". ".repeat(stages).trim();
    }

    /** Cycle by cycle: the cause's number, a colon, and the picture after it. */
    static void dueCycles(Check check, String name, StageCycles x, String... cycles) {
        for (String cycle : cycles) {
            int[] before = new int[5];
            for (int c = 0; c < 5; c++) {
                before[c] = x.cause(c);
            }
            int done = x.run(1);
            StringBuilder got = new StringBuilder();
            for (int c = 0; c < 5; c++) {
                got.append(x.cause(c) != before[c] ? "" + c : "");
            }
            got.append(": ").append(picture(x));
            check.due(name + ", run(1)", done, 1);
            check.due(name + ", cycle " + x.count(0), got.toString(), cycle);
        }
    }
}
