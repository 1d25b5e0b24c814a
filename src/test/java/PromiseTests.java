/** For each promise of the document: ordinary inputs, the edges it names, and wrong inputs. */
public final class PromiseTests {
    private static final long NOTHING = Long.MIN_VALUE;
    private static final int[] NO_PLACES = {-1, 10, Integer.MIN_VALUE, Integer.MAX_VALUE};

    private static int promise = 0;
    private static int wrong = 0;

    private static void due(String call, long got, long want) {
        if (got != want) {
            wrong++;
            System.out.println("promise " + promise + ": " + call + " answered " + got + ", due is " + want);
        }
    }

    private static void bytes(KeptTerms x, int place, int... numbers) {
        due("make", x.make(place, 1, numbers.length), 1);
        for (int i = 0; i < numbers.length; i++) {
            due("set", x.set(place, 1, i, numbers[i]), 1);
        }
    }

    private static void signs(KeptTerms x, int place, int... numbers) {
        due("make", x.make(place, 2, numbers.length), 1);
        for (int i = 0; i < numbers.length; i++) {
            due("set", x.set(place, 2, i, numbers[i]), 1);
        }
    }

    private static int[] numbers(String text) {
        return text.chars().toArray();
    }

    /** 0 nothing, 1 BYTES, 2 SIGNS, 3 ROWS, 4 a TABLE, 5 a KEEPER: each at the place of its number. */
    private static KeptTerms oneOfEach() {
        KeptTerms x = new KeptTerms();
        x.make(1, 1, 2);
        x.make(2, 2, 2);
        x.make(3, 3, 2);
        x.table(4, false, 4);
        x.table(5, true, 4);
        return x;
    }

    private static boolean throwsNoMean(KeptTerms x) {
        try {
            x.mean();
            return false;
        } catch (ArithmeticException e) {
            return true;
        }
    }

    private static void newObject() {
        KeptTerms x = new KeptTerms();
        for (int place = 0; place < 10; place++) {
            due("held", x.held(place, 0), 0);
            due("same", x.same(place, 0), 1);
        }
        due("kept", x.kept(), 0);
        due("NOTHING", KeptTerms.NOTHING, NOTHING);
        KeptTerms y = new KeptTerms();
        y.table(0, true, 4);
        bytes(y, 1, 7);
        y.add(0, 1);
        due("kept of another object", x.kept(), 0);
    }

    private static void fault() {
        KeptTerms x = oneOfEach();
        due("at first", x.fault(), 0);
        x.length(0, 1);
        due("nothing", x.fault(), 1);
        x.length(2, 1);
        due("cast", x.fault(), 2);
        x.get(1, 1, 2);
        due("index", x.fault(), 3);
        x.copy(1, 0, 2, 0, 1);
        due("store", x.fault(), 4);
        x.make(9, 1, -1);
        due("length", x.fault(), 5);
        x.make(9, 1, 1);
        x.make(10, 1, 1);
        x.make(9, 1, 17);
        x.get(10, 1, 1);
        x.get(1, 3, 1);
        x.take(8, 3, 0);
        x.find(4, 1);
        due("behind calls and refusals without one", x.fault(), 5);
        x.hash(0);
        due("where a long is answered", x.fault(), 1);
    }

    private static void make() {
        KeptTerms x = new KeptTerms();
        for (int kind = 1; kind <= 3; kind++) {
            for (int n = 0; n <= 16; n += 4) {
                due("make", x.make(kind, kind, n), 1);
                due("held", x.held(kind, 0), kind);
                due("length", x.length(kind, kind), n);
            }
            for (int i = 0; i < 16 && kind < 3; i++) {
                due("get", x.get(kind, kind, i), 0);
            }
        }
        due("take", x.take(0, 3, 15), -3);
        for (int place : NO_PLACES) {
            due("no place", x.make(place, 0, -1), -1);
        }
        due("kind 0", x.make(1, 0, 1), -2);
        due("kind 4", x.make(1, 4, -1), -2);
        due("n 17", x.make(1, 1, 17), -2);
        due("n of the most", x.make(1, 1, Integer.MAX_VALUE), -2);
        due("fault", x.fault(), 0);
        due("n -1", x.make(1, 1, -1), -15);
        due("n of the least", x.make(1, 3, Integer.MIN_VALUE), -15);
        due("fault", x.fault(), 5);
        due("what was there", x.length(1, 1), 16);
        bytes(x, 4, 9);
        x.move(5, 4);
        x.make(4, 1, 1);
        due("the old one", x.get(5, 1, 0), 9);
        due("a new one", x.get(4, 1, 0), 0);
    }

    private static void table() {
        KeptTerms x = new KeptTerms();
        int[] asked = {1, 3, 4, 5, 8, 9, 16, 17, 32, 33, 64};
        int[] slots = {4, 4, 4, 8, 8, 16, 16, 32, 32, 64, 64};
        for (int k = 0; k < asked.length; k++) {
            due("table", x.table(0, k % 2 == 1, asked[k]), slots[k]);
            due("held", x.held(0, 0), k % 2 == 1 ? 5 : 4);
            due("told 1", x.told(0, 1), slots[k]);
            due("told 0", x.told(0, 0), 0);
            due("told 2", x.told(0, 2), 0);
            due("told 3", x.told(0, 3), 0);
            for (int i = 0; i < slots[k]; i++) {
                due("slot", x.slot(0, i), -3);
            }
        }
        for (int place : NO_PLACES) {
            due("no place", x.table(place, false, 0), -1);
        }
        due("0", x.table(1, false, 0), -2);
        due("65", x.table(1, true, 65), -2);
        due("below", x.table(1, true, Integer.MIN_VALUE), -2);
        due("above", x.table(1, false, Integer.MAX_VALUE), -2);
        due("unchanged", x.held(1, 0), 0);
        due("fault", x.fault(), 0);
    }

    private static void move() {
        KeptTerms x = oneOfEach();
        for (int kind = 0; kind <= 5; kind++) {
            due("move", x.move(9, kind), kind);
            due("same", x.same(9, kind), 1);
        }
        due("to itself", x.move(5, 5), 5);
        for (int place : NO_PLACES) {
            due("no place", x.move(place, -1), -1);
            if (place != -1) {
                due("from no place", x.move(9, place), -1);
            }
        }
        due("from -2", x.move(9, -2), -1);
        due("unchanged", x.held(9, 0), 5);
        due("nothing", x.move(9, -1), 0);
        due("held", x.held(9, 0), 0);
    }

    private static void held() {
        KeptTerms x = oneOfEach();
        for (int kind = 0; kind <= 5; kind++) {
            due("kind", x.held(kind, 0), kind);
            for (int type = 1; type <= 5; type++) {
                boolean is = kind == type || (kind == 5 && type == 4);
                due("type", x.held(kind, type), is ? 1 : 0);
            }
            due("6", x.held(kind, 6), -2);
            due("-1", x.held(kind, -1), -2);
        }
        for (int place : NO_PLACES) {
            due("no place", x.held(place, 6), -1);
        }
        due("fault", x.fault(), 0);
    }

    private static void same() {
        KeptTerms x = oneOfEach();
        due("itself", x.same(1, 1), 1);
        due("nothing", x.same(0, 9), 1);
        due("nothing and something", x.same(0, 1), 0);
        x.twin(8, 1);
        due("like, not the same", x.same(8, 1), 0);
        x.move(7, 5);
        due("moved", x.same(5, 7), 1);
        due("tables", x.same(4, 5), 0);
        x.make(6, 1, 0);
        x.make(8, 1, 0);
        due("two with no cells", x.same(6, 8), 0);
        for (int place : NO_PLACES) {
            due("no place", x.same(place, 0), -1);
            due("no other", x.same(0, place), -1);
        }
    }

    private static void length() {
        KeptTerms x = oneOfEach();
        x.make(6, 3, 0);
        due("no cells", x.length(6, 3), 0);
        for (int type = 1; type <= 3; type++) {
            due("nothing", x.length(0, type), -11);
            due("fault", x.fault(), 1);
            for (int kind = 1; kind <= 5; kind++) {
                due("cast", x.length(kind, type), kind == type ? 2 : -12);
            }
            due("fault", x.fault(), 2);
        }
        for (int place : NO_PLACES) {
            due("no place", x.length(place, 0), -1);
        }
        due("type 0", x.length(1, 0), -2);
        due("type 4", x.length(4, 4), -2);
    }

    private static void get() {
        KeptTerms x = oneOfEach();
        bytes(x, 1, -128, 127);
        signs(x, 2, 128, 65535);
        due("bytes", x.get(1, 1, 0), -128);
        due("bytes", x.get(1, 1, 1), 127);
        due("signs", x.get(2, 2, 0), 128);
        due("signs", x.get(2, 2, 1), 65535);
        due("no place", x.get(10, 1, 0), NOTHING);
        due("no place", x.get(-1, 1, 0), NOTHING);
        due("type 0", x.get(1, 0, 0), NOTHING);
        due("type 3", x.get(3, 3, 0), NOTHING);
        due("refusals are no faults", x.fault(), 0);
        int[] outside = {-1, 2, Integer.MIN_VALUE, Integer.MAX_VALUE};
        for (int i : outside) {
            due("cast", x.get(2, 1, i), NOTHING);
            due("fault", x.fault(), 2);
            due("nothing", x.get(0, 1, i), NOTHING);
            due("fault", x.fault(), 1);
            due("index", x.get(1, 1, i), NOTHING);
            due("fault", x.fault(), 3);
        }
        for (int kind = 3; kind <= 5; kind++) {
            x.get(0, 1, 0);
            due("cast", x.get(kind, 1, 0), NOTHING);
            due("fault", x.fault(), 2);
        }
    }

    private static void set() {
        KeptTerms x = oneOfEach();
        int[] values = {0, 127, 128, 255, 256, 65535, 65536, -1, -129, Integer.MIN_VALUE, Integer.MAX_VALUE};
        for (int v : values) {
            due("bytes", x.set(1, 1, 1, v), 1);
            due("get", x.get(1, 1, 1), (byte) v);
            due("signs", x.set(2, 2, 1, v), 1);
            due("get", x.get(2, 2, 1), (char) v);
            due("other cell", x.get(1, 1, 0) + x.get(2, 2, 0), 0);
        }
        x.move(9, 1);
        x.set(9, 1, 0, 5);
        due("the same one elsewhere", x.get(1, 1, 0), 5);
        due("no place", x.set(10, 3, 0, 0), -1);
        due("type 0", x.set(1, 0, 0, 0), -2);
        due("type 3", x.set(3, 3, 0, 0), -2);
        due("cast", x.set(1, 2, 9, 0), -12);
        due("cast", x.set(4, 1, 0, 0), -12);
        due("nothing", x.set(0, 2, 9, 0), -11);
        due("index", x.set(1, 1, 2, 0), -13);
        due("index", x.set(2, 2, -1, 0), -13);
        due("index", x.set(1, 1, Integer.MIN_VALUE, 0), -13);
        due("unchanged", x.get(1, 1, 0), 5);
    }

    private static void lay() {
        KeptTerms x = oneOfEach();
        due("lay", x.lay(3, 1, 1), 1);
        due("the very same", x.take(8, 3, 1), 2);
        due("the very same", x.same(8, 1), 1);
        due("the other cell", x.take(8, 3, 0), -3);
        due("nothing", x.lay(3, 1, 0), 1);
        due("nothing", x.take(8, 3, 1), -3);
        due("no place", x.lay(10, 0, 1), -1);
        due("no other", x.lay(3, 0, -1), -1);
        due("cast of the first", x.lay(1, 9, 2), -12);
        due("cast of the first", x.lay(4, 0, 0), -12);
        due("cast of the other", x.lay(3, 9, 2), -12);
        due("ROWS in ROWS", x.lay(3, 0, 3), -12);
        due("cast ahead of nothing", x.lay(0, 0, 5), -12);
        due("fault", x.fault(), 2);
        due("nothing ahead of index", x.lay(0, 9, 1), -11);
        due("both nothing", x.lay(0, 9, 0), -11);
        due("index", x.lay(3, 2, 1), -13);
        due("index", x.lay(3, -1, 0), -13);
        due("fault", x.fault(), 3);
        due("unchanged", x.take(8, 3, 0), -3);
    }

    private static void take() {
        KeptTerms x = oneOfEach();
        x.lay(3, 0, 1);
        due("take", x.take(9, 3, 0), 2);
        due("same", x.same(9, 1), 1);
        int before = x.fault();
        due("nothing", x.take(9, 3, 1), -3);
        due("no fault", x.fault(), before);
        due("held", x.held(9, 0), 0);
        x.move(9, 1);
        due("index", x.take(9, 3, 2), -13);
        due("index", x.take(9, 3, -1), -13);
        due("nothing", x.take(9, 0, 5), -11);
        due("cast", x.take(9, 1, 5), -12);
        due("cast", x.take(9, 5, 0), -12);
        due("no place", x.take(10, 3, 0), -1);
        due("no other", x.take(9, -1, 0), -1);
        due("unchanged", x.same(9, 1), 1);
        due("over itself", x.take(3, 3, 0), 2);
        due("over itself", x.held(3, 0), 1);
    }

    private static void cell() {
        KeptTerms x = oneOfEach();
        bytes(x, 1, -1, 100);
        x.lay(3, 1, 1);
        due("cell", x.cell(3, 1, 0), -1);
        due("cell", x.cell(3, 1, 1), 100);
        x.set(1, 1, 1, 101);
        due("changed at its place", x.cell(3, 1, 1), 101);
        due("no place", x.cell(10, 0, 0), NOTHING);
        due("no fault", x.fault(), 0);
        int[][] faults = {{2, 1, 1, 0}, {2, 5, 9, 9}, {1, 0, 9, 9}, {3, 3, 2, 9}, {3, 3, -1, 9}, {1, 3, 0, 9},
            {3, 3, 1, 2}, {3, 3, 1, -1}};
        for (int[] row : faults) {
            due("cell", x.cell(row[1], row[2], row[3]), NOTHING);
            due("fault", x.fault(), row[0]);
        }
    }

    private static void copy() {
        KeptTerms x = oneOfEach();
        bytes(x, 6, 1, 2, 3, 4, 5);
        due("forward", x.copy(6, 0, 6, 1, 4), 1);
        for (int i = 0; i < 5; i++) {
            due("get", x.get(6, 1, i), i == 0 ? 1 : i);
        }
        due("backward", x.copy(6, 2, 6, 0, 3), 1);
        due("get", x.get(6, 1, 0) * 100 + x.get(6, 1, 1) * 10 + x.get(6, 1, 2), 234);
        signs(x, 7, 300, 301, 302);
        due("signs", x.copy(7, 0, 7, 1, 2), 1);
        due("get", x.get(7, 2, 2), 301);
        due("another one", x.copy(7, 1, 2, 0, 2), 1);
        due("get", x.get(2, 2, 1), 301);
        x.make(8, 3, 3);
        x.lay(8, 0, 1);
        x.lay(8, 1, 6);
        due("rows", x.copy(8, 0, 8, 1, 2), 1);
        x.take(9, 8, 1);
        due("the same BYTES", x.same(9, 1), 1);
        x.take(9, 8, 2);
        due("by way of others", x.same(9, 6), 1);
        due("nothing in a cell", x.copy(3, 0, 8, 0, 1), 1);
        due("nothing in a cell", x.take(9, 8, 0), -3);
        due("none at the ends", x.copy(1, 2, 6, 5, 0), 1);
        due("no place", x.copy(10, 0, 0, 0, 0), -1);
        due("no other", x.copy(0, 0, -1, 0, 0), -1);
        x.move(0, -1);
        due("nothing ahead of a store", x.copy(0, 0, 4, 0, 0), -11);
        due("nothing ahead of a store", x.copy(5, 0, 0, 0, 0), -11);
        due("TABLE", x.copy(4, 0, 4, 0, 0), -14);
        due("KEEPER", x.copy(5, 0, 1, 0, 0), -14);
        due("TABLE", x.copy(1, 0, 4, 0, 0), -14);
        due("store ahead of index", x.copy(1, -1, 2, 9, 9), -14);
        due("unlike with none", x.copy(3, 0, 1, 0, 0), -14);
        int most = Integer.MAX_VALUE;
        int least = Integer.MIN_VALUE;
        int[][] beyond = {{-1, 0, 0}, {0, -1, 0}, {0, 0, -1}, {3, 0, 0}, {0, 6, 0}, {0, 0, 3}, {1, 0, 2}, {0, 4, 2},
            {most, 0, 1}, {1, 1, most}, {most, most, most}, {least, 0, 1}, {0, least, 1}, {0, 0, least},
            {least, least, least}, {2, 0, least}, {-1, 0, 1}};
        for (int[] row : beyond) {
            due("index", x.copy(1, row[0], 6, row[1], row[2]), -13);
        }
        due("fault", x.fault(), 3);
        due("unchanged", x.get(6, 1, 0), 2);
    }

    private static void twin() {
        KeptTerms x = oneOfEach();
        for (int kind = 1; kind <= 2; kind++) {
            x.set(kind, kind, 1, 77);
            due("twin", x.twin(9, kind), 2);
            due("kind", x.held(9, 0), kind);
            due("get", x.get(9, kind, 1), 77);
            due("same", x.same(9, kind), 0);
            x.set(9, kind, 1, 78);
            due("shares nothing", x.get(kind, kind, 1), 77);
        }
        x.lay(3, 0, 1);
        due("twin of ROWS", x.twin(9, 3), 2);
        due("same", x.same(9, 3), 0);
        x.take(8, 9, 0);
        due("the same BYTES", x.same(8, 1), 1);
        x.lay(9, 0, 0);
        due("own cells", x.take(8, 3, 0), 2);
        due("itself", x.twin(1, 1), 2);
        due("another one now", x.same(1, 8), 0);
        due("nothing", x.twin(9, 0), -11);
        due("TABLE", x.twin(9, 4), -12);
        due("KEEPER", x.twin(9, 5), -12);
        due("no place", x.twin(10, 0), -1);
        due("no other", x.twin(9, 10), -1);
        due("unchanged", x.held(9, 0), 3);
    }

    private static void like() {
        KeptTerms x = oneOfEach();
        bytes(x, 1, 5, -6);
        bytes(x, 6, 5, -6);
        bytes(x, 7, 5, -6, 0);
        signs(x, 2, 5, 6);
        signs(x, 8, 5, 6);
        due("bytes", x.like(1, 6), 1);
        due("itself", x.like(1, 1), 1);
        due("longer", x.like(1, 7), 0);
        due("shorter", x.like(7, 1), 0);
        due("signs", x.like(2, 8), 1);
        x.set(8, 2, 1, 7);
        due("the last differs", x.like(2, 8), 0);
        signs(x, 8, 4, 6);
        due("the first differs", x.like(2, 8), 0);
        signs(x, 8, 5, 6, 0);
        due("longer", x.like(2, 8), 0);
        due("shorter", x.like(8, 2), 0);
        bytes(x, 7, 5, 6);
        due("unlike kinds", x.like(7, 2), 0);
        x.make(7, 1, 0);
        x.make(8, 1, 0);
        due("no cells", x.like(7, 8), 1);
        due("nothing ahead of cast", x.like(0, 3), -11);
        due("nothing ahead of cast", x.like(3, 0), -11);
        due("ROWS", x.like(3, 1), -12);
        due("itself, ROWS", x.like(3, 3), -12);
        due("TABLE", x.like(1, 4), -12);
        due("KEEPER", x.like(5, 2), -12);
        due("no place", x.like(10, 0), -1);
        due("no other", x.like(0, -1), -1);
    }

    private static void hash() {
        KeptTerms x = oneOfEach();
        due("zeros", x.hash(1), 0);
        bytes(x, 1, 200);
        due("with sign", x.hash(1), -56);
        signs(x, 2, 200);
        due("signs", x.hash(2), 200);
        bytes(x, 1, 1, 2, 3);
        due("in row", x.hash(1), 961 + 62 + 3);
        signs(x, 2, numbers("polygenelubrican"));
        due("in 32 bits", x.hash(2), "polygenelubrican".hashCode());
        bytes(x, 1, 127, 127, 127, 127, 127, 127, 127, 127);
        int want = 0;
        for (int i = 0; i < 8; i++) {
            want = 31 * want + 127;
        }
        due("in 32 bits", x.hash(1), want);
        x.make(6, 2, 0);
        due("no cells", x.hash(6), 0);
        due("no place", x.hash(10), NOTHING);
        due("no fault", x.fault(), 0);
        due("nothing", x.hash(0), NOTHING);
        due("fault", x.fault(), 1);
        for (int kind = 3; kind <= 5; kind++) {
            x.hash(0);
            due("another kind", x.hash(kind), NOTHING);
            due("fault", x.fault(), 2);
        }
    }

    private static void order() {
        KeptTerms x = oneOfEach();
        int[][] rows = {{}, {0}, {0, 0}, {0, 1}, {127}, {128}, {255}, {255, 0}};
        for (int a = 0; a < rows.length; a++) {
            for (int b = 0; b < rows.length; b++) {
                bytes(x, 8, rows[a]);
                bytes(x, 9, rows[b]);
                due("order", x.order(8, 9), -100 + Integer.compare(a, b));
            }
        }
        due("cast of the first", x.order(2, 0), -12);
        due("cast of the other", x.order(0, 3), -12);
        due("TABLE", x.order(1, 4), -12);
        due("nothing", x.order(0, 1), -11);
        due("nothing", x.order(1, 0), -11);
        due("no place", x.order(10, 2), -1);
        due("no other", x.order(2, 10), -1);
    }

    private static void named() {
        KeptTerms x = oneOfEach();
        String[] texts = {"Aa", "BB", "AaAa", "AaBB", "BBAa", "BBBB", "id", ""};
        for (int k = 0; k < texts.length; k++) {
            bytes(x, 8, numbers(texts[k]));
            signs(x, 9, numbers(texts[k]));
            due("bytes " + texts[k], x.named(8), k + 1);
            due("signs " + texts[k], x.named(9), k + 1);
        }
        String[] others = {"A", "aA", "AaB", "AaAaAa", "C#", "Id", "BBAA"};
        for (String text : others) {
            bytes(x, 8, numbers(text));
            signs(x, 9, numbers(text));
            due("bytes " + text, x.named(8), 0);
            due("signs " + text, x.named(9), 0);
        }
        signs(x, 9, 65 + 256, 97);
        due("above a byte", x.named(9), 0);
        due("nothing", x.named(0), -11);
        for (int kind = 3; kind <= 5; kind++) {
            due("another kind", x.named(kind), -12);
        }
        due("no place", x.named(-1), -1);
    }

    private static void add() {
        KeptTerms x = oneOfEach();
        bytes(x, 1, 2);
        due("new", x.add(4, 1), 0);
        due("there", x.add(4, 1), 0);
        x.term(9, 4, 0);
        due("a twin", x.same(9, 1), 0);
        x.set(1, 1, 0, 6);
        due("shares nothing", x.get(9, 1, 0), 2);
        due("another one", x.add(4, 1), 1);
        due("from SLOT 2 on", x.slot(4, 3), 1);
        x.set(1, 1, 0, 10);
        due("round", x.add(4, 1), 2);
        due("round", x.slot(4, 0), 2);
        due("three of four", x.told(4, 1), 4);
        x.set(1, 1, 0, 14);
        due("GROWS", x.add(4, 1), 3);
        due("PROBES ahead of it", x.told(4, 2), 4);
        due("SLOTS", x.told(4, 1), 8);
        int[] grown = {-3, -3, 0, 2, -3, -3, 1, 3};
        for (int i = 0; i < 8; i++) {
            due("slot " + i, x.slot(4, i), grown[i]);
        }
        bytes(x, 1, -1);
        due("a HASH below 0", x.add(4, 1), 4);
        due("its SLOT", x.slot(4, 0), 4);
        due("cast of the TABLE", x.add(1, 0), -12);
        due("cast of the BYTES", x.add(0, 2), -12);
        due("TABLE as BYTES", x.add(4, 4), -12);
        due("nothing", x.add(4, 0), -11);
        due("nothing", x.add(0, 1), -11);
        due("no place", x.add(10, 2), -1);
        due("no other", x.add(4, 10), -1);
        due("TERMS", x.told(4, 0), 5);
    }

    private static void addChanged() {
        KeptTerms x = new KeptTerms();
        x.table(0, false, 4);
        bytes(x, 1, 1);
        x.add(0, 1);
        x.term(2, 0, 0);
        x.set(2, 1, 0, 3);
        due("not LIKE any more", x.add(0, 1), 1);
        due("behind it", x.slot(0, 2), 1);
        bytes(x, 1, 3);
        due("not in the SLOT of its HASH", x.add(0, 1), 2);
        bytes(x, 1, 0);
        due("the fourth", x.add(0, 1), 3);
        int[] grown = {3, 1, -3, 0, 2, -3, -3, -3};
        for (int i = 0; i < 8; i++) {
            due("put in anew as they are", x.slot(0, i), grown[i]);
        }
    }

    private static void addToFull() {
        KeptTerms x = new KeptTerms();
        x.table(0, true, 1);
        x.make(1, 1, 1);
        for (int k = 0; k < 100; k++) {
            x.set(1, 1, 0, k);
            due("add", x.add(0, 1), k);
        }
        due("SLOTS", x.told(0, 1), 256);
        due("GREW", x.told(0, 3), 6);
        due("kept", x.kept(), 100);
        due("mean", x.mean(), 1);
        due("there", x.add(0, 1), 99);
        bytes(x, 1, 0, 0);
        due("no room", x.add(0, 1), -4);
        due("PROBES", x.told(0, 2), 101);
        due("PROBES in the mean", x.mean(), (100 + 1 + 101) / 102);
        for (int k = 0; k < 3; k++) {
            x.add(0, 1);
        }
        due("PROBES in the mean", x.mean(), (101 + 4 * 101) / 105);
        due("TERMS", x.told(0, 0), 100);
        due("none is kept", x.kept(), 100);
        due("no fault", x.fault(), 0);
        due("SLOT", x.slot(0, 100), -3);
    }

    private static void find() {
        KeptTerms x = oneOfEach();
        bytes(x, 1, 3, 4);
        due("none", x.find(4, 1), -3);
        due("PROBES", x.told(4, 2), 1);
        due("counted", x.mean(), 1);
        due("none came", x.told(4, 0), 0);
        x.add(4, 1);
        bytes(x, 6, 3, 4);
        due("LIKE", x.find(4, 6), 0);
        x.term(7, 4, 0);
        x.set(7, 1, 1, 5);
        due("changed", x.find(4, 6), -3);
        due("not from its SLOT on", x.find(4, 7), -3);
        due("cast of the TABLE", x.find(3, 0), -12);
        due("cast of the BYTES", x.find(0, 2), -12);
        due("KEEPER as BYTES", x.find(4, 5), -12);
        due("nothing", x.find(4, 0), -11);
        due("nothing", x.find(0, 1), -11);
        due("no place", x.find(-1, 2), -1);
        due("no other", x.find(4, 10), -1);
    }

    private static void term() {
        KeptTerms x = oneOfEach();
        bytes(x, 1, 1, 2, 3);
        x.add(4, 1);
        x.add(5, 1);
        x.make(1, 1, 0);
        x.add(4, 1);
        due("cells", x.term(8, 4, 0), 3);
        due("cells", x.term(9, 4, 1), 0);
        x.term(9, 4, 0);
        due("the very one", x.same(8, 9), 1);
        x.term(9, 5, 0);
        due("of a KEEPER", x.same(8, 9), 0);
        due("index", x.term(9, 4, 2), -13);
        due("index", x.term(9, 4, -1), -13);
        due("nothing", x.term(9, 0, 9), -11);
        due("cast", x.term(9, 1, 9), -12);
        due("no place", x.term(10, 4, 0), -1);
        due("no other", x.term(9, 10, 0), -1);
        due("unchanged", x.length(9, 1), 3);
        due("over itself", x.term(4, 4, 0), 3);
        due("over itself", x.same(4, 8), 1);
    }

    private static void told() {
        KeptTerms x = oneOfEach();
        x.make(1, 1, 1);
        for (int k = 0; k < 7; k++) {
            x.set(1, 1, 0, 4 * k);
            x.add(4, 1);
        }
        due("TERMS", x.told(4, 0), 7);
        due("SLOTS", x.told(4, 1), 16);
        due("PROBES", x.told(4, 2), 4);
        due("GREW", x.told(4, 3), 2);
        due("of another one", x.told(5, 2), 0);
        x.find(5, 1);
        due("its own", x.told(4, 2), 4);
        due("its own", x.told(5, 2), 1);
        x.set(1, 1, 0, 4);
        x.find(4, 1);
        due("by find", x.told(4, 2), 1);
        x.merge(5, 4);
        due("by merge", x.told(5, 2), 4);
        x.add(4, 2);
        due("not by a FAULT", x.told(4, 2), 1);
        due("4", x.told(4, 4), -2);
        due("-1", x.told(0, -1), -2);
        due("nothing", x.told(0, 0), -11);
        due("cast", x.told(3, 0), -12);
        due("no place", x.told(10, 9), -1);
    }

    private static void slot() {
        KeptTerms x = oneOfEach();
        bytes(x, 1, 0x41, 0x61, 0x41, 0x61);
        x.table(4, false, 64);
        x.add(4, 1);
        int hash = "AaAa".hashCode();
        int first = (hash ^ (hash >>> 16)) % 64;
        for (int i = 0; i < 64; i++) {
            due("slot", x.slot(4, i), i == first ? 0 : -3);
        }
        bytes(x, 1, 0x42, 0x42, 0x42, 0x42);
        x.add(5, 1);
        x.add(4, 1);
        due("the next", x.slot(4, first + 1), 1);
        bytes(x, 1, 127, 127, 127, 127, 127, 127, 127);
        x.add(4, 1);
        int wide = (int) x.hash(1);
        due("xor", x.slot(4, (wide ^ (wide >>> 16)) & 63), 2);
        due("of a KEEPER", x.slot(5, 3), 0);
        due("index", x.slot(5, 4), -13);
        due("index", x.slot(4, -1), -13);
        due("nothing", x.slot(0, -1), -11);
        due("cast", x.slot(2, -1), -12);
        due("no place", x.slot(10, 0), -1);
    }

    private static void ranked() {
        KeptTerms x = oneOfEach();
        int[][] rows = {{255}, {1, 2}, {}, {128, 0}, {1}, {127}, {1, 255}};
        int[] ranks = {2, 4, 1, 6, 5, 3, 0};
        for (int[] row : rows) {
            bytes(x, 1, row);
            x.add(4, 1);
        }
        for (int i = 0; i < ranks.length; i++) {
            due("ranked", x.ranked(4, i), ranks[i]);
        }
        x.term(9, 4, 0);
        x.set(9, 1, 0, 1);
        int[] changed = {2, 0, 4, 1, 6, 5, 3};
        for (int i = 0; i < ranks.length; i++) {
            due("as they are now", x.ranked(4, i), changed[i]);
        }
        x.term(9, 4, 5);
        x.set(9, 1, 0, 1);
        due("of like ones", x.ranked(4, 1), 0);
        due("of like ones", x.ranked(4, 2), 4);
        due("of like ones", x.ranked(4, 3), 5);
        due("index", x.ranked(4, 7), -13);
        due("index", x.ranked(4, -1), -13);
        due("empty", x.ranked(5, 0), -13);
        due("nothing", x.ranked(0, -1), -11);
        due("cast", x.ranked(1, -1), -12);
        due("no place", x.ranked(10, 0), -1);
    }

    private static void merge() {
        KeptTerms x = oneOfEach();
        x.make(1, 1, 1);
        for (int k = 0; k < 5; k++) {
            x.set(1, 1, 0, 10 - k);
            x.add(4, 1);
        }
        x.set(1, 1, 0, 8);
        x.add(5, 1);
        due("new ones", x.merge(5, 4), 4);
        due("by their numbers", x.find(5, 1), 0);
        x.set(1, 1, 0, 9);
        due("by their numbers", x.find(5, 1), 2);
        due("again", x.merge(5, 4), 0);
        due("kept", x.kept(), 5);
        due("the other is as it was", x.told(4, 0), 5);
        x.term(8, 4, 0);
        x.term(9, 5, 1);
        due("like", x.like(8, 9), 1);
        due("not the same", x.same(8, 9), 0);
        due("itself", x.merge(4, 4), 0);
        x.set(8, 1, 0, 77);
        due("itself, changed", x.merge(4, 4), 1);
        due("cast of the first", x.merge(1, 4), -12);
        due("cast of the other", x.merge(4, 3), -12);
        due("cast ahead of nothing", x.merge(0, 1), -12);
        due("nothing", x.merge(0, 4), -11);
        due("nothing", x.merge(4, 0), -11);
        due("no place", x.merge(10, 1), -1);
        due("no other", x.merge(1, -1), -1);
    }

    private static void mergeIntoFull() {
        KeptTerms x = new KeptTerms();
        x.table(0, false, 64);
        x.table(1, true, 4);
        x.make(2, 1, 1);
        for (int k = 0; k < 98; k++) {
            x.set(2, 1, 0, k);
            x.add(0, 2);
        }
        for (int k = 96; k < 102; k++) {
            x.set(2, 1, 0, k);
            x.add(1, 2);
        }
        due("no room", x.merge(0, 1), -4);
        due("those before", x.told(0, 0), 100);
        x.term(3, 0, 99);
        due("the last that came", x.get(3, 1, 0), 99);
        due("PROBES of the one that did not", x.told(0, 2), 1);
        due("into a KEEPER", x.merge(1, 0), -4);
        due("those before", x.told(1, 0), 100);
        due("none is kept of the others", x.kept(), 100);
    }

    private static void kept() {
        KeptTerms x = new KeptTerms();
        x.table(0, true, 4);
        x.table(1, true, 4);
        bytes(x, 2, 5);
        x.add(0, 2);
        x.add(1, 2);
        due("one and the same", x.kept(), 1);
        x.term(3, 0, 0);
        x.term(4, 1, 0);
        due("one and the same", x.same(3, 4), 1);
        due("no twin", x.same(2, 3), 0);
        x.set(3, 1, 0, 6);
        due("elsewhere", x.get(4, 1, 0), 6);
        x.add(0, 2);
        due("LIKE as it is now", x.kept(), 2);
        x.set(3, 1, 0, 5);
        x.table(1, true, 4);
        x.add(1, 2);
        x.term(4, 1, 0);
        due("the eldest first", x.same(3, 4), 1);
        x.move(0, -1);
        x.move(1, -1);
        due("no TABLE has them", x.kept(), 2);
        x.table(0, true, 64);
        for (int k = 0; k < 40; k++) {
            x.set(2, 1, 0, 20 + k);
            x.add(0, 2);
        }
        due("many", x.kept(), 42);
        x.table(1, false, 64);
        x.merge(1, 0);
        due("a TABLE keeps none", x.kept(), 42);
    }

    private static void mean() {
        KeptTerms x = oneOfEach();
        due("none was done", throwsNoMean(x) ? 1 : 0, 1);
        x.add(4, 0);
        x.find(0, 1);
        x.merge(4, 5);
        due("none was done", throwsNoMean(x) ? 1 : 0, 1);
        x.make(1, 1, 1);
        x.find(4, 1);
        due("one", x.mean(), 1);
        x.add(4, 1);
        x.set(1, 1, 0, 4);
        x.add(4, 1);
        due("cut", x.mean(), (1 + 1 + 2) / 3);
        x.set(1, 1, 0, 8);
        x.add(4, 1);
        x.find(4, 1);
        due("add and find", x.mean(), (1 + 1 + 2 + 3 + 3) / 5);
        x.merge(5, 4);
        due("by merge", x.mean(), (10 + 1 + 2 + 3) / 8);
        x.merge(4, 4);
        x.merge(4, 4);
        x.find(4, 1);
        x.find(4, 1);
        due("by merge", x.mean(), (16 + 6 + 6 + 3 + 3) / 16);
        due("fault", x.fault(), 1);
    }

    private static void merges() {
        merge();
        mergeIntoFull();
    }

    private static void adds() {
        add();
        addChanged();
        addToFull();
    }

    private static final Runnable[] PROMISES = {PromiseTests::newObject, PromiseTests::fault, PromiseTests::make,
        PromiseTests::table, PromiseTests::move, PromiseTests::held, PromiseTests::same, PromiseTests::length,
        PromiseTests::get, PromiseTests::set, PromiseTests::lay, PromiseTests::take, PromiseTests::cell,
        PromiseTests::copy, PromiseTests::twin, PromiseTests::like, PromiseTests::hash, PromiseTests::order,
        PromiseTests::named, PromiseTests::adds, PromiseTests::find, PromiseTests::term, PromiseTests::told,
        PromiseTests::slot, PromiseTests::ranked, PromiseTests::merges, PromiseTests::kept, PromiseTests::mean};

    public static void main(String[] args) {
        for (Runnable test : PROMISES) {
            promise++;
            test.run();
        }
        System.out.println(promise + " promises tested, " + wrong + " answers not as due");
        if (wrong != 0 || promise != 28) {
            System.exit(1);
        }
    }
}
