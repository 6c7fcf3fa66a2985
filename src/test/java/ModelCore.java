import java.util.ArrayDeque;
import java.util.ArrayList;
import java.util.Deque;
import java.util.Iterator;
import java.util.List;

/**
 * The document told a second time, in another form: a queue of words under way, the oldest first, each of
 * which knows its stage and all that the plain run makes of it.
 */
final class ModelCore {
    static final class Word {
        final int kind;
        final int d;
        final int a;
        final int b;
        final int n;

        Word(int kind, int d, int a, int b, int n) {
            this.kind = kind;
            this.d = d;
            this.a = a;
            this.b = b;
            this.n = n;
        }

        boolean reads(int r) {
            boolean both = kind == 0 || kind == 2 || kind == 3;
            return (both && (r == a || r == b)) || ((kind == 1 || kind == 4) && r == a);
        }

        boolean writes(int r) {
            return r == d && (kind == 0 || kind == 1 || kind == 3 || kind == 7);
        }
    }

    static final class Flight {
        int number;
        Word word;
        boolean way;
        boolean goes;
        int value;
        int place;
        int stage;
        int worked;
    }

    final int stages;
    final int reading;
    final int alu;
    final int load;
    final int branch;
    final int mul;
    final List<Word> words = new ArrayList<>();
    final Deque<Flight> flights = new ArrayDeque<>();
    final List<int[]> committed = new ArrayList<>();
    final int[] registers = new int[8];
    final int[] memory = new int[64];
    final int[] causes = new int[5];
    private final int[] plainRegisters = new int[8];
    private final int[] plainMemory = new int[64];
    boolean forward = true;
    int handler;
    int cycles;
    int fetched;
    int squashed;
    int faults;
    int went;
    boolean stopped;
    private int next;
    private Flight astrayBehind;
    private boolean stopFetched;

    ModelCore(int stages, int reading, int alu, int load, int branch, int mul) {
        this.stages = stages;
        this.reading = reading;
        this.alu = alu;
        this.load = load;
        this.branch = branch;
        this.mul = mul;
    }

    Flight in(int stage) {
        for (Flight flight : flights) {
            if (flight.stage == stage) {
                return flight;
            }
        }
        return null;
    }

    void cycle() {
        cycles++;
        boolean fetching = true;
        int cause = 4;
        Flight first = in(stages - 1);
        Flight reader = in(reading);
        if (first != null) {
            flights.remove(first);
            if (first.word.kind == 5) {
                faults++;
                squashed += flights.size();
                flights.clear();
                next = handler % words.size();
                astrayBehind = null;
                causes[1]++;
                return;
            }
            commit(first);
            causes[0]++;
            if (first.word.kind == 6) {
                stopped = true;
                return;
            }
            cause = 0;
            if (branch == stages - 1 && first.goes) {
                squashBehind(first);
                return;
            }
        }
        int seen = 4;
        for (Flight flight : new ArrayList<>(flights)) {
            if (!flights.contains(flight)) {
                continue;
            }
            int was = flight.stage;
            if (flight == reader && !ready(flight)) {
                seen = 2;
                continue;
            }
            if (flight == reader) {
                flight.worked++;
                if (flight.worked < (flight.word.kind == 3 ? mul : 1)) {
                    seen = 3;
                    continue;
                }
            }
            if (in(was + 1) != null) {
                continue;
            }
            flight.stage = was + 1;
            if (was == branch && flight.goes) {
                squashBehind(flight);
                fetching = false;
            }
        }
        if (cause != 0) {
            causes[seen]++;
        }
        if (fetching && !stopFetched && in(0) == null) {
            fetch();
        }
    }

    private boolean ready(Flight reader) {
        if (reader.worked > 0) {
            return true;
        }
        for (int r = 0; r < 8; r++) {
            Flight writer = null;
            for (Flight flight : flights) {
                if (flight.stage > reading && flight.word.writes(r)) {
                    writer = flight;
                }
            }
            boolean there = writer == null || (forward && writer.stage > (writer.word.kind == 1 ? load : alu));
            if (reader.word.reads(r) && !there) {
                return false;
            }
        }
        return true;
    }

    private void squashBehind(Flight flight) {
        went++;
        boolean behind = !flights.contains(flight);
        for (Iterator<Flight> all = flights.iterator(); all.hasNext();) {
            Flight other = all.next();
            if (behind) {
                all.remove();
                squashed++;
            }
            behind = behind || other == flight;
        }
        next = (int) (((long) flight.word.n % words.size() + words.size()) % words.size());
        astrayBehind = null;
    }

    private void commit(Flight flight) {
        committed.add(new int[] {flight.number, cycles, flight.value});
        if (flight.word.kind == 2) {
            memory[flight.place] = flight.value;
        }
        for (int r = 0; r < 8; r++) {
            registers[r] = flight.word.writes(r) ? flight.value : registers[r];
        }
    }

    private void fetch() {
        Flight flight = new Flight();
        flight.number = next;
        flight.word = words.get(next);
        flight.way = astrayBehind == null;
        fetched++;
        next = (next + 1) % words.size();
        if (flight.way) {
            plain(flight);
            if (flight.goes || flight.word.kind == 5) {
                astrayBehind = flight;
            }
            stopFetched = flight.word.kind == 6;
        }
        flights.add(flight);
    }

    private void plain(Flight flight) {
        Word w = flight.word;
        long a = plainRegisters[w.a];
        long b = plainRegisters[w.b];
        flight.place = (int) ((a % 64 + 64) % 64);
        long[] values = {a + b + w.n, plainMemory[flight.place], b, a * b, 0, 0, 0, w.n};
        flight.value = (int) values[w.kind];
        flight.goes = w.kind == 4 && a != 0;
        if (w.kind == 2) {
            plainMemory[flight.place] = flight.value;
        }
        if (w.writes(w.d)) {
            plainRegisters[w.d] = flight.value;
        }
    }
}
