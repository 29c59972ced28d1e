import java.lang.reflect.InvocationTargetException;
import java.lang.reflect.Method;
import java.util.ArrayList;
import java.util.List;

/** Long runs of drawn calls, each made on a new object of the class and on a model of the document. */
public final class ModelTest {
    private static final int RUNS = 600;
    private static final int CALLS = 512;

    /**
     * The calls, how often each is drawn, and what it is given: l a layer, t a tile, i an input,
     * o an output, w a weight, r a row, c a column, s a state, v a vector, b a boolean, A..Z ranges.
     */
    private static final String[] CALLS_DRAWN = {
        "layer 8 IO", "weight 60 liow", "shift 5 lS", "next 8 ll", "place 25 lt", "load 20 l", "lift 14 l",
        "stick 8 trcs", "spoil 3 tXM", "drift 4 D", "endurance 3 E", "pass 6 H", "converter 6 tPT",
        "offset 8 tcF", "calibrate 4 tb", "converters 6 tC", "cell 30 trcW", "rowOf 8 li", "tileOf 3 l",
        "misfits 8 lt", "misfitsAnew 6 lt", "isTrue 8 l", "answer 30 lvo", "ideal 4 lvo", "bound 12 lob",
        "run 12 lv", "runIdeal 4 lv", "cycles 4 lN", "cyclesAnew 3 lN", "wear 5 t", "share 3 t", "hour 2 -"
    };

    private static final List<Method> REAL = new ArrayList<>();
    private static final List<Method> MODEL = new ArrayList<>();
    private static final List<String> KINDS = new ArrayList<>();
    private static final List<Integer> LOTS = new ArrayList<>();

    private long drawn;
    private final int tilesUsed;
    private final int wrongInHundred;

    private ModelTest(int seed) {
        drawn = seed;
        tilesUsed = 1 + below(6);
        wrongInHundred = below(3);
    }

    public static void main(String[] args) throws Exception {
        for (int k = 0; k < CALLS_DRAWN.length; k++) {
            String[] parts = CALLS_DRAWN[k].split(" ");
            REAL.add(named(Crossbarry.class, parts[0]));
            MODEL.add(named(Model.class, parts[0]));
            KINDS.add(parts[2].equals("-") ? "" : parts[2]);
            for (int lot = 0; lot < Integer.parseInt(parts[1]); lot++) {
                LOTS.add(k);
            }
        }
        for (int seed = 0; seed < RUNS; seed++) {
            new ModelTest(seed).compare(seed);
        }
        Check.finish();
    }

    private static Method named(Class<?> owner, String name) {
        for (Method method : owner.getDeclaredMethods()) {
            if (method.getName().equals(name)) {
                return method;
            }
        }
        throw new IllegalArgumentException(name);
    }

    /** Ends a run with its first wrong answer, as all behind it may be wrong by that. */
    private void compare(int seed) throws Exception {
        Crossbarry real = new Crossbarry();
        Model model = new Model();
        int first = 1 + below(6);
        for (int call = 1; call <= CALLS; call++) {
            int k = call <= first ? 0 : LOTS.get(below(LOTS.size()));
            Object[] given = arguments(KINDS.get(k), REAL.get(k).getParameterTypes());
            String due = outcome(MODEL.get(k), model, given);
            String got = outcome(REAL.get(k), real, given);
            if (!got.equals(due)) {
                String what = REAL.get(k).getName() + java.util.Arrays.toString(given);
                Check.due("run " + seed + ", call " + call + ", " + what, got, due);
                return;
            }
        }
        Check.due("run", "right", "right");
    }

    private static String outcome(Method method, Object target, Object[] given) throws IllegalAccessException {
        try {
            return String.valueOf(method.invoke(target, given));
        } catch (InvocationTargetException thrown) {
            return thrown.getCause().getClass().getName();
        }
    }

    private Object[] arguments(String kinds, Class<?>[] types) {
        Object[] given = new Object[types.length];
        for (int k = 0; k < types.length; k++) {
            if (types[k] == boolean.class) {
                given[k] = below(2) == 0;
            } else if (types[k] == long.class) {
                given[k] = vector();
            } else {
                given[k] = below(100) < wrongInHundred ? anyInt() : number(kinds.charAt(k));
            }
        }
        return given;
    }

    private long vector() {
        long bits = anyLong();
        int how = below(4);
        return how == 0 ? bits : how == 1 ? bits & 0x0F0F0F0F0F0F0F0FL : how == 2 ? bits & anyLong() : -1L;
    }

    private int anyInt() {
        int[] edges = {Integer.MIN_VALUE, Integer.MAX_VALUE, -1, -2, 6, 8, 16, 256, 1 << 16, 1 << 20};
        return below(2) == 0 ? edges[below(edges.length)] : (int) anyLong();
    }

    private int number(char kind) {
        switch (kind) {
            case 'l': return within(0, 5);
            case 't': return within(0, tilesUsed - 1);
            case 'i': return within(0, below(8));
            case 'o': return within(0, below(4));
            case 'w': return below(4) == 0 ? 0 : below(5) == 0 ? within(-300, 300) : within(-40, 40);
            case 'r': return within(0, 7);
            case 'c': return below(2) == 0 ? within(0, 3) : within(0, 15);
            case 's': return below(2) == 0 ? 0 : within(0, 16);
            case 'I': return within(1, 8);
            case 'O': return within(1, 4);
            case 'S': return below(2) == 0 ? within(0, 21) : within(0, 6);
            case 'X': return within(0, 65535);
            case 'M': return within(1, 20);
            case 'D': return below(2) == 0 ? within(0, 5) : within(0, 1000);
            case 'E': return below(3) == 0 ? within(1, 40) : 1000;
            case 'H': return below(3) > 0 ? within(1, 10) : within(1, 10000);
            case 'P': return within(1, 16);
            case 'T': return within(1, 127);
            case 'F': return within(-3, 3);
            case 'C': return 1 << within(0, 4);
            case 'W': return within(0, 4);
            case 'N': return below(8) == 0 ? within(1, 1000) : within(1, 12);
            default: throw new IllegalArgumentException(String.valueOf(kind));
        }
    }

    /** The same numbers in each run of the test. */
    private long anyLong() {
        drawn = drawn * 6364136223846793005L + 1442695040888963407L;
        return (drawn ^ drawn >>> 29) * 0xBF58476D1CE4E5B9L;
    }

    private int below(int bound) {
        return (int) Long.remainderUnsigned(anyLong() >>> 16, bound);
    }

    private int within(int least, int greatest) {
        return least + below(greatest - least + 1);
    }
}
