import java.util.Arrays;

/**
 * A core in order, cycle by cycle: words go through stages, wait for operands or work on, results
 * are handed forward, branches and faults squash what is behind them; what leaves is what a plain
 * run does.
 */
public final class StageCycles {
    /** Nothing there. */
    public static final int NONE = -1;

    private static final int MOST_WORDS = 64;
    private static final int MOST_STAGES = 8;
    private static final int MOST_CYCLES_A_RUN = 2000;
    private static final int MOST_KEPT = 400;
    private static final int REGISTERS = 8;
    private static final int PLACES = 64;

    private static final int ADD = 0;
    private static final int LOAD = 1;
    private static final int STORE = 2;
    private static final int MUL = 3;
    private static final int BRANCH = 4;
    private static final int FAULT = 5;
    private static final int STOP = 6;
    private static final int SET = 7;
    private static final int KINDS = 8;

    private static final int ONE_COMMITTED = 0;
    private static final int FAULT_LEFT = 1;
    private static final int NOT_READY = 2;
    private static final int STILL_WORKING = 3;
    private static final int ANY_OTHER = 4;
    private static final int CAUSES = 5;

    private final Shape shape;
    private final Program program;
    private final Line line;

    public StageCycles(int stages, int read, int alu, int load, int branch, int mul) {
        shape = new Shape(stages, read, alu, load, branch, mul);
        program = new Program();
        line = new Line(shape, program);
    }

    public int word(int kind, int d, int a, int b, int n)
            throws IllegalArgumentException, IllegalStateException, UnsupportedOperationException {
        if (!isBelow(kind, KINDS)) {
            throw new IllegalArgumentException("no such kind");
        }
        if (!isBelow(d, REGISTERS) || !isBelow(a, REGISTERS) || !isBelow(b, REGISTERS)) {
            throw new IllegalArgumentException("no such register");
        }
        if (line.tally.cycles != 0) {
            throw new IllegalStateException("cycles were done");
        }
        if (program.size() >= MOST_WORDS) {
            throw new UnsupportedOperationException("there are 64 words");
        }
        return program.append(kind, d, a, b, n);
    }

    public boolean set(boolean forward, int h) throws IllegalArgumentException, IllegalStateException {
        if (!isBelow(h, MOST_WORDS)) {
            throw new IllegalArgumentException("h is not 0 .. 63");
        }
        if (line.tally.cycles != 0) {
            throw new IllegalStateException("cycles were done");
        }
        boolean before = line.forward;
        line.forward = forward;
        line.handler = h;
        return before;
    }

    public int clear() {
        int cycles = line.tally.cycles;
        program.forget();
        line.beginAnew();
        return cycles;
    }

    public int run(int n) throws IllegalArgumentException, IllegalStateException {
        if (n < 1 || n > MOST_CYCLES_A_RUN) {
            throw new IllegalArgumentException("n is not 1 .. 2000");
        }
        if (program.size() == 0) {
            throw new IllegalStateException("there are no words");
        }
        int done = 0;
        while (done < n && !line.tally.stopped) {
            line.doCycle();
            done++;
        }
        return done;
    }

    public int stage(int s, int what) throws IndexOutOfBoundsException {
        if (!isBelow(s, shape.stages) || !isBelow(what, 2)) {
            throw new IndexOutOfBoundsException("no such stage or what");
        }
        if (what == 0) {
            return line.slots.wordIn(s);
        }
        return line.slots.isOnTheWay(s) ? 1 : 0;
    }

    public int committed(int k, int what) throws IndexOutOfBoundsException {
        if (!isBelow(k, line.journal.size()) || !isBelow(what, 3)) {
            throw new IndexOutOfBoundsException("no such committed one or what");
        }
        return line.journal.entry(k, what);
    }

    public int register(int r) throws IndexOutOfBoundsException {
        if (!isBelow(r, REGISTERS)) {
            throw new IndexOutOfBoundsException("no such register");
        }
        return line.left.valueOf(r);
    }

    public int memory(int at) throws IndexOutOfBoundsException {
        if (!isBelow(at, PLACES)) {
            throw new IndexOutOfBoundsException("no such place");
        }
        return line.left.valueAt(at);
    }

    public int cause(int cause) throws IndexOutOfBoundsException {
        if (!isBelow(cause, CAUSES)) {
            throw new IndexOutOfBoundsException("no such cause");
        }
        return line.tally.cyclesWith(cause);
    }

    public int count(int what) {
        switch (what) {
            case 0: return line.tally.cycles;
            case 1: return line.tally.commits;
            case 2: return line.tally.fetched;
            case 3: return line.tally.squashed;
            case 4: return line.tally.faults;
            case 5: return line.tally.stopped ? 1 : 0;
            case 6: return shape.stages;
            case 7: return shape.reading;
            case 8: return shape.behindAlu;
            case 9: return shape.behindLoad;
            case 10: return shape.behindBranch;
            case 11: return shape.mulCycles;
            case 12: return program.size();
            case 13: return line.tally.went;
            default: return NONE;
        }
    }

    private static boolean isBelow(int value, int bound) {
        return value >= 0 && value < bound;
    }

    /** The stages of the core, and which of them matters for what: N, R, FA, FL, B, M. */
    private static final class Shape {
        final int stages;
        final int reading;
        final int behindAlu;
        final int behindLoad;
        final int behindBranch;
        final int mulCycles;

        Shape(int stages, int read, int alu, int load, int branch, int mul) {
            this.stages = 3 + rest(stages, 6);
            this.reading = 1 + rest(read, this.stages - 2);
            int fromReading = this.stages - this.reading;
            this.behindAlu = this.reading + rest(alu, fromReading);
            this.behindLoad = this.reading + rest(load, fromReading);
            this.behindBranch = this.reading + rest(branch, fromReading);
            this.mulCycles = 1 + rest(mul, 8);
        }

        private static int rest(int value, int divisor) {
            return divisor > 0 ? Math.floorMod(value, divisor) : 0;
        }

        int last() {
            return stages - 1;
        }

        /** The stage behind which a word of this kind has its result. */
        int behindWhichReady(int kind) {
            return kind == LOAD ? behindLoad : behindAlu;
        }

        int cyclesToWork(int kind) {
            return kind == MUL ? mulCycles : 1;
        }
    }

    /** The words, by number. */
    private static final class Program {
        private final int[] kinds = new int[MOST_WORDS];
        private final int[] writes = new int[MOST_WORDS];
        private final int[] firsts = new int[MOST_WORDS];
        private final int[] seconds = new int[MOST_WORDS];
        private final int[] numbers = new int[MOST_WORDS];
        private int words;

        int append(int kind, int d, int a, int b, int n) {
            if (words < 0 || words >= MOST_WORDS) {
                return NONE;
            }
            kinds[words] = kind;
            writes[words] = hasTarget(kind) ? d : NONE;
            firsts[words] = readsFirst(kind) ? a : NONE;
            seconds[words] = readsSecond(kind) ? b : NONE;
            numbers[words] = n;
            words++;
            return words - 1;
        }

        private static boolean hasTarget(int kind) {
            return kind == ADD || kind == LOAD || kind == MUL || kind == SET;
        }

        private static boolean readsFirst(int kind) {
            return kind == LOAD || kind == BRANCH || readsSecond(kind);
        }

        private static boolean readsSecond(int kind) {
            return kind == ADD || kind == STORE || kind == MUL;
        }

        void forget() {
            words = 0;
        }

        int size() {
            return words;
        }

        int kindOf(int word) {
            return word >= 0 && word < MOST_WORDS ? kinds[word] : NONE;
        }

        /** The register that a word writes, or NONE. */
        int written(int word) {
            return word >= 0 && word < MOST_WORDS ? writes[word] : NONE;
        }

        /** Its register a if it reads that, or NONE. */
        int firstRead(int word) {
            return word >= 0 && word < MOST_WORDS ? firsts[word] : NONE;
        }

        /** Its register b if it reads that, or NONE. */
        int secondRead(int word) {
            return word >= 0 && word < MOST_WORDS ? seconds[word] : NONE;
        }

        int number(int word) {
            return word >= 0 && word < MOST_WORDS ? numbers[word] : 0;
        }

        int behind(int word) {
            return word + 1 < words ? word + 1 : 0;
        }

        /** A number taken modulo the words. */
        int wordAt(int number) {
            return words > 0 ? Math.floorMod(number, words) : 0;
        }
    }

    /** Registers and memory of a plain run, as far as it has come. */
    private static final class PlainRun {
        private final Program program;
        private final int[] registers = new int[REGISTERS];
        private final int[] places = new int[PLACES];

        PlainRun(Program program) {
            this.program = program;
        }

        void beginAnew() {
            Arrays.fill(registers, 0);
            Arrays.fill(places, 0);
        }

        int valueOf(int register) {
            return register >= 0 && register < REGISTERS ? registers[register] : 0;
        }

        int valueAt(int number) {
            return places[Math.floorMod(number, PLACES)];
        }

        boolean goes(int word) {
            return program.kindOf(word) == BRANCH && valueOf(program.firstRead(word)) != 0;
        }

        /** Does a word: what it writes, 0 without. */
        int perform(int word) {
            int a = valueOf(program.firstRead(word));
            int b = valueOf(program.secondRead(word));
            int n = program.number(word);
            int d = program.written(word);
            switch (program.kindOf(word)) {
                case ADD: return write(d, a + b + n);
                case LOAD: return write(d, valueAt(a));
                case STORE: return store(a, b);
                case MUL: return write(d, a * b);
                case SET: return write(d, n);
                default: return 0;
            }
        }

        private int write(int register, int value) {
            if (register >= 0 && register < REGISTERS) {
                registers[register] = value;
            }
            return value;
        }

        private int store(int number, int value) {
            places[Math.floorMod(number, PLACES)] = value;
            return value;
        }
    }

    /** What is in the stages. */
    private static final class Slots {
        private final int[] words = new int[MOST_STAGES];
        private final boolean[] onTheWay = new boolean[MOST_STAGES];
        private final boolean[] going = new boolean[MOST_STAGES];

        Slots() {
            Arrays.fill(words, NONE);
        }

        int wordIn(int s) {
            return s >= 0 && s < MOST_STAGES ? words[s] : NONE;
        }

        boolean isOnTheWay(int s) {
            return s >= 0 && s < MOST_STAGES && onTheWay[s];
        }

        /** Whether a BRANCH on the way that goes is in a stage. */
        boolean isGoing(int s) {
            return s >= 0 && s < MOST_STAGES && going[s];
        }

        void put(int s, int word, boolean way, boolean goes) {
            if (s >= 0 && s < MOST_STAGES) {
                words[s] = word;
                onTheWay[s] = way;
                going[s] = goes;
            }
        }

        void empty(int s) {
            put(s, NONE, false, false);
        }

        void moveOnFrom(int s) {
            put(s + 1, wordIn(s), isOnTheWay(s), isGoing(s));
            empty(s);
        }

        /** Empties all stages below one: how many words were in them. */
        int squashBelow(int s) {
            int squashed = 0;
            for (int i = 0; i < MOST_STAGES && i < s; i++) {
                if (words[i] != NONE) {
                    squashed++;
                }
                put(i, NONE, false, false);
            }
            return squashed;
        }

        void beginAnew() {
            squashBelow(MOST_STAGES);
        }
    }

    /** The latest committed words, the oldest of them first. */
    private static final class Journal {
        private final int[] words = new int[MOST_KEPT];
        private final int[] cycles = new int[MOST_KEPT];
        private final int[] values = new int[MOST_KEPT];
        private int oldest;
        private int kept;

        void beginAnew() {
            oldest = 0;
            kept = 0;
        }

        int size() {
            return kept;
        }

        void append(int word, int cycle, int value) {
            int at = Math.floorMod(oldest + kept, MOST_KEPT);
            words[at] = word;
            cycles[at] = cycle;
            values[at] = value;
            if (kept < MOST_KEPT) {
                kept++;
            } else {
                oldest = Math.floorMod(oldest + 1, MOST_KEPT);
            }
        }

        int entry(int k, int what) {
            int at = Math.floorMod(oldest + k, MOST_KEPT);
            switch (what) {
                case 0: return words[at];
                case 1: return cycles[at];
                default: return values[at];
            }
        }
    }

    /** What is counted. */
    private static final class Tally {
        private final int[] causes = new int[CAUSES];
        int cycles;
        int commits;
        int fetched;
        int squashed;
        int faults;
        int went;
        boolean stopped;

        void beginAnew() {
            Arrays.fill(causes, 0);
            cycles = 0;
            commits = 0;
            fetched = 0;
            squashed = 0;
            faults = 0;
            went = 0;
            stopped = false;
        }

        void addCause(int cause) {
            if (cause >= 0 && cause < CAUSES) {
                causes[cause]++;
            }
        }

        int cyclesWith(int cause) {
            return cause >= 0 && cause < CAUSES ? causes[cause] : 0;
        }
    }

    /** The words' way through the stages. */
    private static final class Line {
        private final Shape shape;
        private final Program program;
        final Slots slots = new Slots();
        final Journal journal = new Journal();
        final Tally tally = new Tally();
        /** Does words as they are fetched: whether what follows a branch is astray shows at once. */
        private final PlainRun ahead;
        /** Does words as they are committed. */
        final PlainRun left;
        boolean forward = true;
        int handler;
        private int next;
        private boolean astray;
        private boolean stopFetched;
        private boolean redirected;
        private int worked;

        Line(Shape shape, Program program) {
            this.shape = shape;
            this.program = program;
            this.ahead = new PlainRun(program);
            this.left = new PlainRun(program);
        }

        void beginAnew() {
            slots.beginAnew();
            journal.beginAnew();
            tally.beginAnew();
            ahead.beginAnew();
            left.beginAnew();
            next = 0;
            astray = false;
            stopFetched = false;
            redirected = false;
            worked = 0;
        }

        void doCycle() {
            tally.cycles++;
            redirected = false;
            int cause = leave();
            if (!tally.stopped) {
                int inReading = goOn();
                cause = cause == ANY_OTHER ? inReading : cause;
                fetch();
            }
            tally.addCause(cause);
        }

        /** Step 1: the cause that it gives the cycle. */
        private int leave() {
            int last = shape.last();
            int word = slots.wordIn(last);
            if (word == NONE) {
                return ANY_OTHER;
            }
            boolean goes = slots.isGoing(last);
            slots.empty(last);
            if (program.kindOf(word) == FAULT) {
                tally.faults++;
                squashAndGoTo(last, handler);
                return FAULT_LEFT;
            }
            commit(word);
            if (goes && shape.behindBranch == last) {
                takeBranch(last, word);
            }
            return ONE_COMMITTED;
        }

        private void commit(int word) {
            int written = left.perform(word);
            tally.commits++;
            journal.append(word, tally.cycles, written);
            if (program.kindOf(word) == STOP) {
                tally.stopped = true;
            }
        }

        private void takeBranch(int from, int word) {
            tally.went++;
            squashAndGoTo(from, program.number(word));
        }

        private void squashAndGoTo(int stage, int number) {
            tally.squashed += slots.squashBelow(stage);
            next = program.wordAt(number);
            astray = false;
            redirected = true;
        }

        /** Step 2: the cause that the word in the reading stage gives the cycle. */
        private int goOn() {
            int cause = ANY_OTHER;
            for (int s = shape.last() - 1; s >= 0; s--) {
                int word = slots.wordIn(s);
                int held = word != NONE && s == shape.reading ? work(word) : ANY_OTHER;
                if (held != ANY_OTHER) {
                    cause = held;
                } else if (word != NONE && slots.wordIn(s + 1) == NONE) {
                    slots.moveOnFrom(s);
                    worked = s + 1 == shape.reading ? 0 : worked;
                    if (s == shape.behindBranch && slots.isGoing(s + 1)) {
                        takeBranch(s, word);
                    }
                }
            }
            return cause;
        }

        /** A cycle of the word in the reading stage: what holds it there, ANY_OTHER if nothing does. */
        private int work(int word) {
            if (worked == 0 && !isReady(word)) {
                return NOT_READY;
            }
            int due = shape.cyclesToWork(program.kindOf(word));
            if (worked < due) {
                worked++;
            }
            return worked < due ? STILL_WORKING : ANY_OTHER;
        }

        private boolean isReady(int word) {
            return isThere(program.firstRead(word)) && isThere(program.secondRead(word));
        }

        private boolean isThere(int register) {
            if (register == NONE) {
                return true;
            }
            for (int s = shape.reading + 1; s < shape.stages; s++) {
                int writer = slots.wordIn(s);
                if (program.written(writer) == register) {
                    return forward && s > shape.behindWhichReady(program.kindOf(writer));
                }
            }
            return true;
        }

        /** Step 3. */
        private void fetch() {
            if (redirected || stopFetched || slots.wordIn(0) != NONE) {
                return;
            }
            int word = next;
            boolean way = !astray;
            boolean goes = way && ahead.goes(word);
            slots.put(0, word, way, goes);
            tally.fetched++;
            next = program.behind(word);
            if (way) {
                ahead.perform(word);
                int kind = program.kindOf(word);
                astray = goes || kind == FAULT;
                stopFetched = kind == STOP;
            }
        }
    }
}
