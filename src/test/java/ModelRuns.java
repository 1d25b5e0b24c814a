import java.util.ArrayList;
import java.util.Arrays;
import java.util.List;

/**
 * Runs of mixed calls, each answer against that of a model. The model holds Java's own arrays and lets the
 * machine throw: which fault comes first is what the machine finds first.
 */
public final class ModelRuns {
    private static final int RUNS = 3000;
    private static final int CALLS = 512;
    private static final long NOTHING = Long.MIN_VALUE;
    private static final long THROWN = Long.MAX_VALUE;
    /** A call is a row of numbers: which one of these, then its arguments. */
    private static final String[] CALL_NAMES = {"fault", "make", "table", "move", "held", "same", "length", "get", "set",
        "lay", "take", "cell", "copy", "twin", "like", "hash", "order", "named", "add", "find", "term", "told", "slot",
        "ranked", "merge", "kept", "fault", "mean"};

    private long state;
    private final StringBuilder log = new StringBuilder();

    private ModelRuns(long seed) {
        state = seed * 0x9E3779B97F4A7C15L + 1;
    }

    private int below(int bound) {
        state = state * 6364136223846793005L + 1442695040888963407L;
        return (int) ((state >>> 33) % bound);
    }

    private boolean oneIn(int n) {
        return below(n) == 0;
    }

    private int wild() {
        int[] odd = {-1, -2, 6, 10, 16, 17, 64, 65, Integer.MIN_VALUE, Integer.MAX_VALUE};
        return odd[below(odd.length)];
    }

    private int within(int bound) {
        return oneIn(60) ? wild() : below(bound);
    }

    private int place() {
        return within(10);
    }

    /** Tables stand at 0 to 2 most of the time, so that they live long. */
    private int tablePlace() {
        return oneIn(10) ? place() : below(3);
    }

    private int rowPlace() {
        return oneIn(20) ? place() : 3 + below(7);
    }

    /** ROWS stand at 8 and 9 most of the time. */
    private int rowsPlace() {
        return oneIn(5) ? rowPlace() : 8 + below(2);
    }

    private int copyPlace() {
        return oneIn(2) ? rowPlace() : rowsPlace();
    }

    private int bytesPlace() {
        return oneIn(5) ? rowPlace() : 3 + below(4);
    }

    private int value() {
        int[] few = {0, 1, 4, 8, 65, 66, 97, 127, 128, 255, -1, 321, 65535, 65536};
        return oneIn(3) ? few[below(few.length)] : below(300);
    }

    private int[] call(int what) {
        switch (what) {
            case 1: return new int[] {what, bytesPlace(), oneIn(3) ? within(5) : 1, oneIn(9) ? within(20) : below(5)};
            case 2: return new int[] {what, tablePlace(), below(2), oneIn(4) ? within(66) : 1 + below(9)};
            case 3: return new int[] {what, bytesPlace(), oneIn(5) ? -1 : place()};
            case 4: return new int[] {what, place(), within(7)};
            case 5: return new int[] {what, place(), place()};
            case 6: return new int[] {what, place(), 1 + within(3)};
            case 7: return new int[] {what, rowPlace(), oneIn(4) ? 2 : within(4), within(4)};
            case 8: return new int[] {what, rowPlace(), oneIn(4) ? within(4) : 1, within(4), value()};
            case 9: return new int[] {what, rowsPlace(), within(4), bytesPlace()};
            case 10: return new int[] {what, bytesPlace(), rowsPlace(), within(4)};
            case 11: return new int[] {what, rowsPlace(), within(4), within(4)};
            case 12: return new int[] {what, copyPlace(), within(3), copyPlace(), within(3), within(4)};
            case 13: case 14: case 16: return new int[] {what, bytesPlace(), rowPlace()};
            case 15: case 17: return new int[] {what, rowPlace()};
            case 18: case 19: return new int[] {what, tablePlace(), bytesPlace()};
            case 20: return new int[] {what, bytesPlace(), tablePlace(), within(20)};
            case 21: return new int[] {what, tablePlace(), within(5)};
            case 22: case 23: return new int[] {what, tablePlace(), within(24)};
            case 24: return new int[] {what, tablePlace(), tablePlace()};
            default: return new int[] {what};
        }
    }

    private int[] nextCall() {
        // set, add and term come more often: without them tables stay small and as they were
        int[] often = {8, 8, 8, 8, 18, 18, 18, 18, 18, 20, 1, 23};
        return call(oneIn(2) ? often[below(often.length)] : rarely(below(28)));
    }

    private int rarely(int what) {
        return (what == 2 || what == 3) && !oneIn(12) ? 22 : what;
    }

    private static long ask(KeptTerms x, int[] c) {
        switch (c[0]) {
            case 0: return x.fault();
            case 1: return x.make(c[1], c[2], c[3]);
            case 2: return x.table(c[1], c[2] == 1, c[3]);
            case 3: return x.move(c[1], c[2]);
            case 4: return x.held(c[1], c[2]);
            case 5: return x.same(c[1], c[2]);
            case 6: return x.length(c[1], c[2]);
            case 7: return x.get(c[1], c[2], c[3]);
            case 8: return x.set(c[1], c[2], c[3], c[4]);
            case 9: return x.lay(c[1], c[2], c[3]);
            case 10: return x.take(c[1], c[2], c[3]);
            case 11: return x.cell(c[1], c[2], c[3]);
            case 12: return x.copy(c[1], c[2], c[3], c[4], c[5]);
            case 13: return x.twin(c[1], c[2]);
            case 14: return x.like(c[1], c[2]);
            case 15: return x.hash(c[1]);
            case 16: return x.order(c[1], c[2]);
            case 17: return x.named(c[1]);
            case 18: return x.add(c[1], c[2]);
            case 19: return x.find(c[1], c[2]);
            case 20: return x.term(c[1], c[2], c[3]);
            case 21: return x.told(c[1], c[2]);
            case 22: return x.slot(c[1], c[2]);
            case 23: return x.ranked(c[1], c[2]);
            case 24: return x.merge(c[1], c[2]);
            case 25: return x.kept();
            case 26: return x.fault();
            default: return meanOf(x);
        }
    }

    private static long meanOf(KeptTerms x) {
        try {
            return x.mean();
        } catch (ArithmeticException e) {
            return THROWN;
        }
    }

    private boolean agree(KeptTerms x, Model model, int[] call) {
        long got = ask(x, call);
        long due = model.answer(call);
        log.append(CALL_NAMES[call[0]]).append(Arrays.toString(Arrays.copyOfRange(call, 1, call.length))).append(" = ").append(due).append('\n');
        if (got == due && x.fault() == model.fault) {
            return true;
        }
        System.out.print(log);
        System.out.println("the last one answered " + got + ", due is " + due + "; fault() is " + x.fault() + ", due is "
            + model.fault);
        return false;
    }

    private boolean seeded(KeptTerms x, Model model) {
        int[][] first = {{2, 0, 0, 4}, {2, 1, 1, 1}, {2, 2, below(2), 1 + below(64)},
            {1, 7, 2, 3}, {1, 8, 3, 4}, {1, 9, 3, 3}};
        for (int[] call : first) {
            if (!agree(x, model, call)) {
                return false;
            }
        }
        return true;
    }

    private boolean run() {
        KeptTerms x = new KeptTerms();
        Model model = new Model();
        if (!seeded(x, model)) {
            return false;
        }
        for (int k = 6; k < CALLS; k++) {
            if (!agree(x, model, nextCall())) {
                return false;
            }
        }
        return true;
    }

    /** Names with equal hashes, 100 in a table, merged here and there with changes between. */
    private boolean crowdedRun() {
        KeptTerms x = new KeptTerms();
        Model model = new Model();
        boolean fine = seeded(x, model) && agree(x, model, new int[] {1, 3, 1, 16});
        for (int k = 0; k < 105 && fine; k++) {
            int cell = 2 * below(8);
            boolean pair = oneIn(2);
            fine = agree(x, model, new int[] {8, 3, 1, cell, pair ? 65 : 66})
                && agree(x, model, new int[] {8, 3, 1, cell + 1, pair ? 97 : 66})
                && agree(x, model, new int[] {18, 0, 3});
        }
        for (int k = 0; k < 40 && fine; k++) {
            fine = agree(x, model, new int[] {24, below(3), below(3)})
                && agree(x, model, new int[] {20, 4, below(3), below(40)})
                && agree(x, model, new int[] {8, 4, 1, below(16), value()})
                && agree(x, model, new int[] {21, below(3), 2})
                && agree(x, model, new int[] {27});
        }
        for (int i = 0; i < 100 && fine; i++) {
            fine = agree(x, model, new int[] {23, below(3), i});
        }
        return fine;
    }

    public static void main(String[] args) {
        for (int seed = 1; seed <= RUNS; seed++) {
            ModelRuns runs = new ModelRuns(seed);
            if (!(seed % 10 == 0 ? runs.crowdedRun() : runs.run())) {
                System.out.println("run " + seed + " is not as due");
                System.exit(1);
            }
        }
        System.out.println(RUNS + " runs are as the model's");
    }

    private static class Plain {
        final List<byte[]> terms = new ArrayList<>();
        Integer[] slots;
        int probes;
        int growths;

        Plain(int asked) {
            slots = new Integer[Math.max(4, asked == 1 ? 1 : Integer.highestOneBit(asked - 1) * 2)];
        }

        static int hashOf(byte[] row) {
            return Arrays.hashCode(row) - powerOf31(row.length);
        }

        // Arrays.hashCode begins with 1 where the document begins with 0.
        private static int powerOf31(int n) {
            int power = 1;
            for (int i = 0; i < n; i++) {
                power *= 31;
            }
            return power;
        }

        int first(byte[] row) {
            int hash = hashOf(row);
            return (int) (Integer.toUnsignedLong(hash ^ (hash >>> 16)) % slots.length);
        }

        int look(byte[] row) {
            int at = first(row);
            probes = 1;
            while (slots[at] != null && !Arrays.equals(terms.get(slots[at]), row)) {
                at = (at + 1) % slots.length;
                probes++;
            }
            return at;
        }

        void growIfCrowded() {
            if (terms.size() <= slots.length * 0.75) {
                return;
            }
            slots = new Integer[slots.length * 2];
            growths++;
            for (int k = 0; k < terms.size(); k++) {
                int at = first(terms.get(k));
                while (slots[at] != null) {
                    at = (at + 1) % slots.length;
                }
                slots[at] = k;
            }
        }
    }

    private static final class PlainKeeper extends Plain {
        PlainKeeper(int asked) {
            super(asked);
        }
    }

    private static final class Model {
        private static final List<String> NAMES = List.of("Aa", "BB", "AaAa", "AaBB", "BBAa", "BBBB", "id", "");

        final Object[] p = new Object[10];
        final List<byte[]> pool = new ArrayList<>();
        int fault;
        long probes;
        long looks;

        long answer(int[] c) {
            boolean far = c[0] == 7 || c[0] == 11 || c[0] == 15;
            long refused = refusal(c);
            if (refused != 0) {
                return far ? NOTHING : refused;
            }
            try {
                return act(c);
            } catch (NullPointerException e) {
                fault = 1;
            } catch (ClassCastException e) {
                fault = 2;
            } catch (IndexOutOfBoundsException e) {
                fault = 3;
            } catch (ArrayStoreException e) {
                fault = 4;
            } catch (NegativeArraySizeException e) {
                fault = 5;
            }
            return far ? NOTHING : -10 - fault;
        }

        private static boolean noPlace(int place) {
            return place < 0 || place > 9;
        }

        private static boolean not(int least, int v, int most) {
            return v < least || v > most;
        }

        private static long refusal(int[] c) {
            int what = c[0];
            if (what == 0 || what >= 25) {
                return 0;
            }
            boolean second = what == 5 || what == 10 || what == 13 || what == 14 || what == 16 || what == 18
                || what == 19 || what == 20 || what == 24;
            boolean third = what == 9 || what == 12;
            if (noPlace(c[1]) || (second && noPlace(c[2])) || (third && noPlace(c[3]))
                || (what == 3 && c[2] != -1 && noPlace(c[2]))) {
                return -1;
            }
            switch (what) {
                case 1: return not(1, c[2], 3) || c[3] > 16 ? -2 : 0;
                case 2: return not(1, c[3], 64) ? -2 : 0;
                case 4: return not(0, c[2], 5) ? -2 : 0;
                case 6: return not(1, c[2], 3) ? -2 : 0;
                case 7: case 8: return not(1, c[2], 2) ? -2 : 0;
                case 21: return not(0, c[2], 3) ? -2 : 0;
                default: return 0;
            }
        }

        private long act(int[] c) {
            switch (c[0]) {
                case 0: case 26: return fault;
                case 1: return made(c);
                case 2: p[c[1]] = c[2] == 1 ? new PlainKeeper(c[3]) : new Plain(c[3]); return ((Plain) p[c[1]]).slots.length;
                case 3: p[c[1]] = c[2] == -1 ? null : p[c[2]]; return kind(p[c[1]]);
                case 4: return c[2] == 0 ? kind(p[c[1]]) : is(p[c[1]], c[2]) ? 1 : 0;
                case 5: return p[c[1]] == p[c[2]] ? 1 : 0;
                case 6: return c[2] == 1 ? ((byte[]) p[c[1]]).length : c[2] == 2 ? ((char[]) p[c[1]]).length
                    : ((byte[][]) p[c[1]]).length;
                case 7: return c[2] == 1 ? ((byte[]) p[c[1]])[c[3]] : ((char[]) p[c[1]])[c[3]];
                case 8: return set(c);
                case 9: ((byte[][]) p[c[1]])[c[2]] = (byte[]) p[c[3]]; return 1;
                case 10: p[c[1]] = ((byte[][]) p[c[2]])[c[3]]; return p[c[1]] == null ? -3 : ((byte[]) p[c[1]]).length;
                case 11: return ((byte[][]) p[c[1]])[c[2]][c[3]];
                case 12: System.arraycopy(p[c[1]], c[2], p[c[3]], c[4], c[5]); return 1;
                case 13: return twin(c);
                case 14: return like(p[c[1]], p[c[2]]);
                case 15: return hash(p[c[1]]);
                case 16: return order((byte[]) p[c[1]], (byte[]) p[c[2]]);
                case 17: return 1 + namesIndex(text(p[c[1]]));
                case 18: return come((Plain) p[c[1]], (byte[]) p[c[2]]);
                case 19: return find((Plain) p[c[1]], (byte[]) p[c[2]]);
                case 20: p[c[1]] = ((Plain) p[c[2]]).terms.get(c[3]); return ((byte[]) p[c[1]]).length;
                case 21: return told((Plain) p[c[1]], c[2]);
                case 22: return slot((Plain) p[c[1]], c[2]);
                case 23: return ranked((Plain) p[c[1]], c[2]);
                case 24: return merge((Plain) p[c[1]], (Plain) p[c[2]]);
                case 25: return pool.size();
                default: return looks == 0 ? THROWN : probes / looks;
            }
        }

        private long made(int[] c) {
            p[c[1]] = c[2] == 1 ? new byte[c[3]] : c[2] == 2 ? new char[c[3]] : new byte[c[3]][];
            return 1;
        }

        private long set(int[] c) {
            if (c[2] == 1) {
                ((byte[]) p[c[1]])[c[3]] = (byte) c[4];
            } else {
                ((char[]) p[c[1]])[c[3]] = (char) c[4];
            }
            return 1;
        }

        private static int kind(Object held) {
            for (int type = 5; type > 0; type--) {
                if (is(held, type)) {
                    return type;
                }
            }
            return 0;
        }

        private static boolean is(Object held, int type) {
            switch (type) {
                case 1: return held instanceof byte[];
                case 2: return held instanceof char[];
                case 3: return held instanceof byte[][];
                case 4: return held instanceof Plain;
                default: return held instanceof PlainKeeper;
            }
        }

        private long twin(int[] c) {
            Object of = p[c[2]];
            if (of instanceof char[]) {
                p[c[1]] = ((char[]) of).clone();
                return ((char[]) of).length;
            }
            if (of instanceof byte[]) {
                p[c[1]] = ((byte[]) of).clone();
                return ((byte[]) of).length;
            }
            byte[][] rows = ((byte[][]) of).clone();
            p[c[1]] = rows;
            return rows.length;
        }

        private static long like(Object one, Object other) {
            if (one == null || other == null) {
                throw new NullPointerException();
            }
            String a = text(one);
            String b = text(other);
            return kind(one) == kind(other) && a.equals(b) ? 1 : 0;
        }

        private static String text(Object held) {
            if (held == null) {
                throw new NullPointerException();
            }
            if (held instanceof char[]) {
                return new String((char[]) held);
            }
            byte[] row = (byte[]) held;
            return new String(row, java.nio.charset.StandardCharsets.ISO_8859_1);
        }

        private static long hash(Object held) {
            String text = text(held);
            return held instanceof char[] ? text.hashCode() : Plain.hashOf((byte[]) held);
        }

        private static long order(byte[] one, byte[] other) {
            return Integer.signum(Arrays.compareUnsigned(one.clone(), other.clone())) - 100;
        }

        private static int namesIndex(String text) {
            return NAMES.indexOf(text);
        }

        private long counted(Plain table, long answer) {
            probes += table.probes;
            looks++;
            return answer;
        }

        private long come(Plain table, byte[] row) {
            row = row.clone();
            int at = table.look(row);
            if (table.slots[at] != null) {
                return counted(table, table.slots[at]);
            }
            if (table.terms.size() == 100) {
                return counted(table, -4);
            }
            table.terms.add(table instanceof PlainKeeper ? keep(row) : row);
            table.slots[at] = table.terms.size() - 1;
            table.growIfCrowded();
            return counted(table, table.terms.size() - 1);
        }

        private byte[] keep(byte[] row) {
            for (byte[] one : pool) {
                if (Arrays.equals(one, row)) {
                    return one;
                }
            }
            pool.add(row);
            return row;
        }

        private long find(Plain table, byte[] row) {
            row = row.clone();
            Integer found = table.slots[table.look(row)];
            return counted(table, found == null ? -3 : found);
        }

        private static long told(Plain table, int what) {
            int[] all = {table.terms.size(), table.slots.length, table.probes, table.growths};
            return all[what];
        }

        private static long slot(Plain table, int i) {
            return table.slots[i] == null ? -3 : table.slots[i];
        }

        private static long ranked(Plain table, int i) {
            List<Integer> numbers = new ArrayList<>();
            for (int k = 0; k < table.terms.size(); k++) {
                numbers.add(k);
            }
            numbers.sort((a, b) -> Arrays.compareUnsigned(table.terms.get(a), table.terms.get(b)));
            return numbers.get(i);
        }

        private long merge(Plain into, Plain from) {
            int before = into.terms.size();
            for (byte[] row : new ArrayList<>(from.terms)) {
                if (come(into, row) == -4) {
                    return -4;
                }
            }
            return into.terms.size() - before;
        }
    }
}
