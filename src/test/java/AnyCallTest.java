import java.util.List;
import java.util.Random;

/** Any calls with any arguments in any state: nothing but the exceptions that the document names is thrown. */
public final class AnyCallTest {
    private static final Check CHECK = new Check();
    private static final int[] EDGES = {Integer.MIN_VALUE, -65, -64, -1, 0, 1, 2, 3, 5, 7, 8, 63, 64, 399, 400, 2000,
        2001, Integer.MAX_VALUE};

    public static void main(String[] args) {
        for (int seed = 0; seed < 800; seed++) {
            Random random = new Random(seed);
            StageCycles x = new StageCycles(any(random), any(random), any(random), any(random), any(random),
                    any(random));
            // some of these make more than one call, and an object is used for at most 512
            for (int call = 0; call < 256; call++) {
                dueFine("seed " + seed + ", call " + call, x, random);
            }
        }
        CHECK.end();
    }

    private static int any(Random random) {
        int way = random.nextInt(10);
        return way < 6 ? random.nextInt(8) : way < 9 ? EDGES[random.nextInt(EDGES.length)] : random.nextInt();
    }

    private static void dueFine(String name, StageCycles x, Random random) {
        int which = random.nextInt(20) == 0 ? 2 : random.nextInt(10);
        List<Class<?>> named = List.of(IndexOutOfBoundsException.class);
        if (which == 0) {
            named = List.of(IllegalArgumentException.class, IllegalStateException.class,
                    UnsupportedOperationException.class);
        } else if (which == 1 || which == 3) {
            named = List.of(IllegalArgumentException.class, IllegalStateException.class);
        } else if (which == 2 || which == 9) {
            named = List.of();
        }
        String thrown = "nothing";
        try {
            call(which, x, random);
        } catch (RuntimeException e) {
            thrown = named.contains(e.getClass()) ? "nothing" : e.toString();
        }
        CHECK.due(name + ", method " + which + " throws", thrown, "nothing");
    }

    private static void call(int which, StageCycles x, Random random) {
        switch (which) {
            case 0: x.word(any(random), any(random), any(random), any(random), any(random)); break;
            case 1: x.set(random.nextBoolean(), any(random)); break;
            case 2: x.clear(); fill(x, random); break;
            case 3: x.run(any(random)); break;
            case 4: x.stage(any(random), any(random)); break;
            case 5: x.committed(any(random), any(random)); break;
            case 6: x.register(any(random)); break;
            case 7: x.memory(any(random)); break;
            case 8: x.cause(any(random)); break;
            default: x.count(any(random)); break;
        }
    }

    private static void fill(StageCycles x, Random random) {
        int words = random.nextInt(8);
        for (int w = 0; w < words; w++) {
            x.word(random.nextInt(8), random.nextInt(8), random.nextInt(8), random.nextInt(8), any(random));
        }
    }
}
