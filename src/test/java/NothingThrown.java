import java.lang.reflect.InvocationTargetException;
import java.lang.reflect.Method;
import java.lang.reflect.Modifier;
import java.util.Arrays;
import java.util.Comparator;

/**
 * Calls with all kinds of arguments on objects that are used far beyond their 512 calls: what they answer is
 * free then, but none may throw.
 */
public final class NothingThrown {
    private static final int RUNS = 10;
    private static final int STEPS = 20_000;
    private static final int[] ODD = {-1, -2, 10, 16, 17, 64, 65, 100, 128, 256, Integer.MIN_VALUE, Integer.MAX_VALUE};

    private final KeptTerms x = new KeptTerms();
    private final Method[] calls;
    private long state;
    private int thrown;

    private NothingThrown(long seed) {
        state = seed * 0x9E3779B97F4A7C15L + 1;
        // The machine names them in no fixed order, and each run is to be the same every time.
        calls = Arrays.stream(KeptTerms.class.getDeclaredMethods())
            .filter(call -> Modifier.isPublic(call.getModifiers()))
            .sorted(Comparator.comparing(Method::getName))
            .toArray(Method[]::new);
    }

    private int below(int bound) {
        state = state * 6364136223846793005L + 1442695040888963407L;
        return (int) ((state >>> 33) % bound);
    }

    private Object argument(Class<?> type) {
        if (type == boolean.class) {
            return below(2) == 0;
        }
        return below(12) == 0 ? ODD[below(ODD.length)] : below(10);
    }

    private void anyCall() throws IllegalAccessException {
        Method call = calls[below(calls.length)];
        Object[] arguments = Arrays.stream(call.getParameterTypes()).map(this::argument).toArray();
        try {
            call.invoke(x, arguments);
        } catch (InvocationTargetException e) {
            thrown++;
            System.out.println(call.getName() + Arrays.toString(arguments) + " threw " + e.getCause());
        }
    }

    /** So that tables fill, and KEEPERS keep all that they have room for. */
    private void newContentComes() {
        if (below(40) == 0) {
            x.table(below(3), below(3) != 0, 1 + below(64));
        }
        x.make(3, 1, 3);
        for (int i = 0; i < 3; i++) {
            x.set(3, 1, i, below(256));
        }
        x.add(below(3), 3);
    }

    private int run() throws IllegalAccessException {
        x.table(0, true, 1);
        x.make(3, 1, 3);
        // From the first add() on mean() throws no more.
        x.add(0, 3);
        for (int step = 0; step < STEPS; step++) {
            newContentComes();
            anyCall();
        }
        return thrown;
    }

    public static void main(String[] args) throws IllegalAccessException {
        int thrown = 0;
        for (int run = 0; run < RUNS; run++) {
            thrown += new NothingThrown(run).run();
        }
        System.out.println(RUNS + " long runs, " + thrown + " calls threw");
        if (thrown > 0) {
            System.exit(1);
        }
    }
}
