/** The boundary cases that promises 1 to 15 name, sentence by sentence. */
public final class PlacesBoundaries extends Sentences {

    // ---- 1, 2

    private static void newObject() {
        KeptTerms x = new KeptTerms();
        for (int place = 0; place < 10; place++) {
            due("kind", x.held(place, 0), 0);
            for (int type = 1; type <= 5; type++) {
                due("type", x.held(place, type), 0);
            }
        }
        KeptTerms other = scene();
        due("kept by another object", x.kept(), 0);
        due("mean of another object", mean(x), THROWN);
        other.make(1, 1, -1);
        due("FAULT of another object", x.fault(), 0);
    }

    private static void theLatestFault() {
        KeptTerms x = scene();
        x.twin(9, 0);
        due("1", x.fault(), 1);
        x.twin(9, 4);
        due("2", x.fault(), 2);
        x.set(1, 1, 2, 0);
        due("3", x.fault(), 3);
        x.copy(1, 0, 2, 0, 0);
        due("4", x.fault(), 4);
        x.make(9, 1, -1);
        due("5", x.fault(), 5);
        x.hash(0);
        due("of a call that answers a long", x.fault(), 1);
        due("again", x.fault(), 1);
    }

    private static void noFaultSoFar() {
        KeptTerms x = new KeptTerms();
        due("at first", x.fault(), 0);
        for (Call call : CALLS_WITHOUT_A_FAULT) {
            x = scene();
            call.on(x);
            due("behind a call without one", x.fault(), 0);
        }
    }

    private static void callsWithoutAFault() {
        for (int k = 0; k < CALLS_WITHOUT_A_FAULT.length; k++) {
            KeptTerms x = scene();
            x.make(9, 1, -1);
            CALLS_WITHOUT_A_FAULT[k].on(x);
            due("behind call " + k, x.fault(), 5);
        }
    }

    /** In the scene each of them is done or refused. */
    private static final Call[] CALLS_WITHOUT_A_FAULT = {x -> x.make(9, 1, 1), x -> x.make(10, 1, -1),
        x -> x.make(9, 0, -1), x -> x.table(9, true, 4), x -> x.table(9, true, 0), x -> x.move(9, 2), x -> x.move(9, -1),
        x -> x.move(9, 10), x -> x.held(0, 0), x -> x.held(0, 6), x -> x.same(0, 1), x -> x.same(0, 10),
        x -> x.length(1, 1), x -> x.length(0, 4), x -> x.get(1, 1, 0), x -> x.get(10, 1, 0), x -> x.get(1, 3, 0),
        x -> x.set(1, 1, 0, 1), x -> x.set(1, 3, 0, 1), x -> x.lay(3, 0, 0), x -> x.lay(10, 0, 0), x -> x.take(9, 3, 0),
        x -> x.take(9, 3, 1), x -> x.cell(3, 0, 0), x -> x.cell(10, 0, 0), x -> x.copy(1, 0, 1, 1, 1),
        x -> x.copy(1, 0, 10, 0, 0), x -> x.twin(9, 1), x -> x.twin(10, 0), x -> x.like(1, 2), x -> x.like(10, 0),
        x -> x.hash(1), x -> x.hash(10), x -> x.order(1, 6), x -> x.order(10, 0), x -> x.named(1), x -> x.named(10),
        x -> x.add(5, 6), x -> x.add(10, 0), x -> x.find(4, 1), x -> x.find(5, 6), x -> x.find(10, 0),
        x -> x.term(9, 4, 0), x -> x.term(10, 0, 0), x -> x.told(4, 0), x -> x.told(0, 4), x -> x.slot(4, 0),
        x -> x.slot(5, 0), x -> x.slot(10, 0), x -> x.ranked(4, 0), x -> x.ranked(10, 0), x -> x.merge(4, 5),
        x -> x.merge(10, 0), KeptTerms::kept, Sentences::mean, KeptTerms::fault};

    // ---- 3 make

    private static void makeCells() {
        for (int kind = 1; kind <= 3; kind++) {
            for (int n = 0; n <= 16; n++) {
                KeptTerms x = scene();
                due("make", x.make(9, kind, n), 1);
                due("kind", x.held(9, 0), kind);
                due("length", x.length(9, kind), n);
                for (int i = 0; i < n; i++) {
                    due("cell", kind == 3 ? x.take(0, 9, i) : x.get(9, kind, i), kind == 3 ? -3 : 0);
                }
                due("what was there", x.length(1, 1), 2);
                due("FAULT", x.fault(), 0);
            }
        }
    }

    private static void makeOutside() {
        for (int kind : new int[] {0, 4, 5, -1, LEAST, MOST}) {
            refuses("kind " + kind, -2, x -> x.make(9, kind, 1));
            refuses("kind " + kind + " and n", -2, x -> x.make(9, kind, 17));
        }
        for (int n : new int[] {17, 18, MOST}) {
            for (int kind = 1; kind <= 3; kind++) {
                int of = kind;
                refuses("n " + n, -2, x -> x.make(9, of, n));
            }
        }
        noPlace("make", (x, p) -> x.make(p, 1, 1));
    }

    private static void makeBelow0() {
        for (int n : new int[] {-1, -2, -17, LEAST}) {
            for (int kind = 1; kind <= 3; kind++) {
                int of = kind;
                fails("n " + n, 5, x -> x.make(9, of, n));
            }
            refuses("behind the kind", -2, x -> x.make(9, 0, n));
        }
    }

    // ---- 4 table

    private static void tableOf1To64() {
        for (int keeps = 0; keeps < 2; keeps++) {
            for (int slots : new int[] {1, 4, 5, 63, 64}) {
                KeptTerms x = scene();
                int due = slots < 5 ? 4 : slots == 5 ? 8 : 64;
                due("table", x.table(9, keeps == 1, slots), due);
                due("kind", x.held(9, 0), 4 + keeps);
                due("TERMS", x.told(9, 0), 0);
                due("SLOTS", x.told(9, 1), due);
                due("PROBES", x.told(9, 2), 0);
                due("GREW", x.told(9, 3), 0);
                due("no TERM", x.term(0, 9, 0), -13);
            }
        }
    }

    private static void tableOutside() {
        for (int slots : new int[] {0, -1, LEAST, 65, 128, MOST}) {
            refuses("slots " + slots, -2, x -> x.table(9, false, slots));
            refuses("slots " + slots, -2, x -> x.table(9, true, slots));
        }
        noPlace("table", (x, p) -> x.table(p, false, 1));
        noPlace("table", (x, p) -> x.table(p, true, 65));
    }

    // ---- 5 move

    private static void moveNothing() {
        for (int kind = 0; kind <= 5; kind++) {
            KeptTerms x = scene();
            due("nothing", x.move(kind, -1), 0);
            due("held", x.held(kind, 0), 0);
            due("FAULT", x.fault(), 0);
        }
    }

    private static void moveToItself() {
        for (int kind = 0; kind <= 5; kind++) {
            int of = kind;
            refuses("to itself", kind, x -> x.move(of, of));
            KeptTerms x = scene();
            due("its kind", x.move(9, kind), kind);
            due("the very same", x.same(9, kind), 1);
        }
    }

    private static void moveNoPlace() {
        noPlace("move", (x, p) -> x.move(p, 1));
        noPlace("move of nothing", (x, p) -> x.move(p, -1));
        for (int from : new int[] {-2, 10, LEAST, MOST}) {
            refuses("from " + from, -1, x -> x.move(9, from));
        }
    }

    // ---- 6 held, 7 same

    private static void heldTypes() {
        for (int kind = 0; kind <= 5; kind++) {
            for (int what = 0; what <= 5; what++) {
                boolean is = kind == what || (kind == 5 && what == 4);
                int of = kind;
                int asked = what;
                refuses("held", what == 0 ? kind : is ? 1 : 0, x -> x.held(of, asked));
            }
        }
    }

    private static void heldOutside() {
        for (int what : new int[] {-1, 6, LEAST, MOST}) {
            refuses("nothing, " + what, -2, x -> x.held(0, what));
            refuses("a KEEPER, " + what, -2, x -> x.held(5, what));
        }
        noPlace("held", (x, p) -> x.held(p, 0));
    }

    private static void sameOrBothNothing() {
        KeptTerms x = scene();
        x.move(3, -1);
        due("both nothing", x.same(0, 3), 1);
        due("nothing and itself", x.same(0, 0), 1);
        due("one nothing", x.same(0, 1), 0);
        due("the other nothing", x.same(1, 0), 0);
        due("the very same", x.same(1, 9), 1);
        x.make(9, 1, 0);
        due("with no cells", x.same(6, 9), 0);
        noPlace("same", (y, p) -> y.same(p, 0));
        noPlace("same, other", (y, p) -> y.same(0, p));
        noPlace("both", (y, p) -> y.same(p, p));
    }

    // ---- 8 length

    private static void lengthOf0To16() {
        KeptTerms x = new KeptTerms();
        for (int kind = 1; kind <= 3; kind++) {
            for (int n : new int[] {0, 1, 16}) {
                x.make(0, kind, n);
                due("length", x.length(0, kind), n);
            }
        }
    }

    private static void lengthOutside() {
        for (int type : new int[] {0, -1, LEAST, 4, 5, MOST}) {
            for (int kind = 0; kind <= 5; kind++) {
                int of = kind;
                refuses("type " + type, -2, x -> x.length(of, type));
            }
        }
        noPlace("length", (x, p) -> x.length(p, 1));
    }

    private static void lengthFaults() {
        for (int type = 1; type <= 3; type++) {
            int to = type;
            fails("nothing", 1, x -> x.length(0, to));
            for (int kind = 1; kind <= 5; kind++) {
                int of = kind;
                if (kind != type) {
                    fails("CAST of " + kind + " to " + type, 2, x -> x.length(of, to));
                }
            }
        }
    }

    // ---- 9 get

    private static final int[] NO_CELLS = {-1, 2, 16, LEAST, MOST};

    private static void getFirstAndLast() {
        KeptTerms x = new KeptTerms();
        x.make(0, 1, 16);
        x.make(1, 2, 16);
        for (int i : new int[] {0, 15}) {
            x.set(0, 1, i, -1 - i);
            x.set(1, 2, i, 65535 - i);
            due("BYTES", x.get(0, 1, i), -1 - i);
            due("SIGNS", x.get(1, 2, i), 65535 - i);
        }
        due("behind the last", x.get(0, 1, 16), NOTHING);
        due("FAULT", x.fault(), 3);
    }

    private static void getOutside() {
        for (int type : new int[] {0, 3, 4, 5, -1, LEAST, MOST}) {
            for (int kind = 0; kind <= 5; kind++) {
                int of = kind;
                refuses("type " + type, NOTHING, x -> x.get(of, type, 0));
            }
        }
        noPlaceFar("get", (x, p) -> x.get(p, 1, 0));
        noPlaceFar("get", (x, p) -> x.get(p, 3, 9));
    }

    private static void getFaults() {
        for (int i : new int[] {0, -1, 2, MOST}) {
            for (int type = 1; type <= 2; type++) {
                int to = type;
                failsFar("nothing", 1, x -> x.get(0, to, i));
                for (int kind = 1; kind <= 5; kind++) {
                    int of = kind;
                    if (kind != type) {
                        failsFar("CAST of " + kind + " to " + type, 2, x -> x.get(of, to, i));
                    }
                }
            }
        }
        for (int i : NO_CELLS) {
            failsFar("BYTES " + i, 3, x -> x.get(1, 1, i));
            failsFar("SIGNS " + i, 3, x -> x.get(2, 2, i));
        }
        failsFar("no BYTES", 3, x -> x.get(6, 1, 0));
        failsFar("no SIGNS", 3, x -> x.get(7, 2, 0));
    }

    // ---- 10 set

    private static void setIsCast() {
        KeptTerms x = new KeptTerms();
        x.make(0, 1, 1);
        x.make(1, 2, 1);
        int[] values = {0, 127, 128, 255, 256, -1, -128, -129, 65535, 65536, LEAST, MOST};
        int[] bytes = {0, 127, -128, -1, 0, -1, -128, 127, -1, 0, 0, -1};
        int[] signs = {0, 127, 128, 255, 256, 65535, 65408, 65407, 65535, 0, 0, 65535};
        for (int k = 0; k < values.length; k++) {
            due("set", x.set(0, 1, 0, values[k]), 1);
            due("a byte of " + values[k], x.get(0, 1, 0), bytes[k]);
            due("set", x.set(1, 2, 0, values[k]), 1);
            due("a sign of " + values[k], x.get(1, 2, 0), signs[k]);
        }
    }

    private static void setFirstAndLast() {
        KeptTerms x = new KeptTerms();
        for (int kind = 1; kind <= 2; kind++) {
            x.make(0, kind, 3);
            due("first", x.set(0, kind, 0, 5), 1);
            dueCells("first", x, 0, kind, 5, 0, 0);
            due("last", x.set(0, kind, 2, 6), 1);
            dueCells("last", x, 0, kind, 5, 0, 6);
        }
    }

    private static void setOutside() {
        for (int type : new int[] {0, 3, 4, 5, -1, LEAST, MOST}) {
            for (int kind = 0; kind <= 5; kind++) {
                int of = kind;
                refuses("type " + type, -2, x -> x.set(of, type, 0, 1));
            }
        }
        noPlace("set", (x, p) -> x.set(p, 1, 0, 1));
    }

    private static void setFaults() {
        for (int i : new int[] {0, -1, 2, MOST}) {
            for (int type = 1; type <= 2; type++) {
                int to = type;
                fails("nothing", 1, x -> x.set(0, to, i, 1));
                for (int kind = 1; kind <= 5; kind++) {
                    int of = kind;
                    if (kind != type) {
                        fails("CAST of " + kind + " to " + type, 2, x -> x.set(of, to, i, 1));
                    }
                }
            }
        }
        for (int i : NO_CELLS) {
            fails("BYTES " + i, 3, x -> x.set(1, 1, i, 1));
            fails("SIGNS " + i, 3, x -> x.set(2, 2, i, 1));
        }
        fails("no BYTES", 3, x -> x.set(6, 1, 0, 1));
        fails("no SIGNS", 3, x -> x.set(7, 2, 0, 1));
    }

    // ---- 11 lay

    private static void layNothing() {
        KeptTerms x = scene();
        due("lay", x.lay(3, 0, 0), 1);
        due("nothing", x.take(9, 3, 0), -3);
        due("the BYTES", x.length(1, 1), 2);
        due("FAULT", x.fault(), 0);
    }

    private static void layFirstAndLast() {
        KeptTerms x = new KeptTerms();
        x.make(0, 3, 16);
        x.make(1, 1, 0);
        due("first", x.lay(0, 0, 1), 1);
        due("last", x.lay(0, 15, 1), 1);
        for (int i = 0; i < 16; i++) {
            due("cell " + i, x.take(2, 0, i), i == 0 || i == 15 ? 0 : -3);
        }
        x.take(2, 0, 15);
        due("the very BYTES", x.same(1, 2), 1);
    }

    private static void layFaults() {
        for (int kind : new int[] {1, 2, 4, 5}) {
            fails("CAST of the first", 2, x -> x.lay(kind, 0, 1));
            fails("CAST of the first, ahead of 3", 2, x -> x.lay(kind, 9, 0));
        }
        for (int kind : new int[] {2, 3, 4, 5}) {
            fails("CAST of the other", 2, x -> x.lay(3, 0, kind));
            fails("CAST of the other, ahead of 1", 2, x -> x.lay(0, 0, kind));
            fails("CAST of the other, ahead of 3", 2, x -> x.lay(3, 9, kind));
            fails("CAST of both", 2, x -> x.lay(2, 0, kind));
        }
        for (int i : new int[] {0, -1, 2, LEAST, MOST}) {
            fails("nothing", 1, x -> x.lay(0, i, 1));
            fails("nothing, nothing", 1, x -> x.lay(0, i, 0));
        }
        for (int i : NO_CELLS) {
            fails("index " + i, 3, x -> x.lay(3, i, 1));
            fails("index " + i + ", nothing", 3, x -> x.lay(3, i, 0));
        }
        fails("no cells", 3, x -> x.lay(8, 0, 1));
        noPlace("lay", (x, p) -> x.lay(p, 0, 1));
        noPlace("lay, other", (x, p) -> x.lay(3, 0, p));
    }

    // ---- 12 take

    private static void takeNothing() {
        KeptTerms x = scene();
        due("take", x.take(1, 3, 1), -3);
        due("holds nothing then", x.held(1, 0), 0);
        due("the same BYTES elsewhere", x.length(9, 1), 2);
        due("FAULT", x.fault(), 0);
        due("over itself", x.take(3, 3, 1), -3);
        due("holds nothing then", x.held(3, 0), 0);
    }

    private static void takeCells() {
        KeptTerms x = new KeptTerms();
        x.make(0, 3, 16);
        for (int n = 0; n < 16; n++) {
            x.make(1, 1, n + 1);
            x.lay(0, n, 1);
        }
        for (int n = 0; n < 16; n++) {
            due("how many", x.take(1, 0, n), n + 1);
        }
        x.make(1, 1, 0);
        x.lay(0, 0, 1);
        due("none", x.take(2, 0, 0), 0);
        due("the very BYTES", x.same(1, 2), 1);
        due("over itself", x.take(0, 0, 15), 16);
        due("over itself", x.held(0, 0), 1);
    }

    private static void takeFaults() {
        for (int i : new int[] {0, -1, 2, LEAST, MOST}) {
            for (int kind : new int[] {1, 2, 4, 5}) {
                fails("CAST of " + kind, 2, x -> x.take(9, kind, i));
            }
            fails("nothing", 1, x -> x.take(9, 0, i));
        }
        for (int i : NO_CELLS) {
            fails("index " + i, 3, x -> x.take(9, 3, i));
        }
        fails("no cells", 3, x -> x.take(9, 8, 0));
        noPlace("take", (x, p) -> x.take(p, 3, 0));
        noPlace("take, other", (x, p) -> x.take(9, p, 0));
    }

    // ---- 13 cell

    private static void cellFirstAndLast() {
        KeptTerms x = new KeptTerms();
        x.make(0, 3, 16);
        x.make(1, 1, 16);
        x.set(1, 1, 0, 127);
        x.set(1, 1, 15, 128);
        x.lay(0, 15, 1);
        due("first", x.cell(0, 15, 0), 127);
        due("last", x.cell(0, 15, 15), -128);
        due("FAULT", x.fault(), 0);
    }

    private static void cellFaults() {
        for (int i : new int[] {0, 1, -1, 2, LEAST, MOST}) {
            for (int kind : new int[] {1, 2, 4, 5}) {
                failsFar("CAST of " + kind, 2, x -> x.cell(kind, i, i));
            }
            failsFar("nothing", 1, x -> x.cell(0, i, i));
        }
        for (int i : NO_CELLS) {
            failsFar("index i " + i, 3, x -> x.cell(3, i, 0));
            failsFar("nothing there", 1, x -> x.cell(3, 1, i));
            failsFar("index j " + i, 3, x -> x.cell(3, 0, i));
        }
        failsFar("nothing there", 1, x -> x.cell(3, 1, 0));
        failsFar("no cells", 3, x -> x.cell(8, 0, 0));
        noPlaceFar("cell", (x, p) -> x.cell(p, 0, 0));
    }

    private static void cellOfBytesWithNoCells() {
        KeptTerms x = scene();
        x.lay(3, 0, 6);
        due("no byte", x.cell(3, 0, 0), NOTHING);
        due("FAULT", x.fault(), 3);
    }

    // ---- 14 copy

    private static void copyByWayOfOthers() {
        for (int kind = 1; kind <= 2; kind++) {
            for (int at = 0; at <= 4; at++) {
                for (int to = 0; to <= 4; to++) {
                    for (int n = 0; n <= 4 - Math.max(at, to); n++) {
                        dueCopied(kind, at, to, n);
                    }
                }
            }
        }
    }

    private static void dueCopied(int kind, int at, int to, int n) {
        KeptTerms x = new KeptTerms();
        int[] cells = {1, 2, 3, 4};
        int[] due = cells.clone();
        System.arraycopy(cells, at, due, to, n);
        if (kind == 1) {
            bytes(x, 0, cells);
        } else {
            signs(x, 0, cells);
        }
        due("copy", x.copy(0, at, 0, to, n), 1);
        dueCells("copy " + at + " " + to + " " + n, x, 0, kind, due);
    }

    private static void copyRowsByWayOfOthers() {
        for (int at = 0; at <= 1; at++) {
            KeptTerms x = new KeptTerms();
            x.make(0, 3, 4);
            for (int i = 1; i <= 4; i++) {
                x.make(i, 1, i);
                x.lay(0, i - 1, i);
            }
            due("copy", x.copy(0, at, 0, 1 - at, 3), 1);
            int[] due = at == 0 ? new int[] {1, 1, 2, 3} : new int[] {2, 3, 4, 4};
            for (int i = 0; i < 4; i++) {
                due("cells", x.take(9, 0, i), due[i]);
                due("the very BYTES", x.same(9, due[i]), 1);
            }
        }
    }

    private static void copyOfOneToAnother() {
        KeptTerms x = new KeptTerms();
        bytes(x, 0, 1, 2, 3);
        bytes(x, 1, 4, 5);
        due("copy", x.copy(0, 1, 1, 0, 2), 1);
        dueCells("the one", x, 0, 1, 1, 2, 3);
        dueCells("the other", x, 1, 1, 2, 3);
        due("copy", x.copy(1, 1, 0, 0, 1), 1);
        dueCells("the other", x, 0, 1, 3, 2, 3);
        dueCells("the one", x, 1, 1, 2, 3);
    }

    private static void copyOfNothingInCells() {
        KeptTerms x = scene();
        due("copy", x.copy(3, 1, 3, 0, 1), 1);
        due("nothing", x.take(0, 3, 0), -3);
        due("FAULT", x.fault(), 0);
    }

    private static void copyOfNone() {
        for (int kind = 1; kind <= 3; kind++) {
            int of = kind;
            refuses("at 0", 1, x -> x.copy(of, 0, of, 0, 0));
            refuses("at the ends", 1, x -> x.copy(of, 2, of, 2, 0));
            refuses("with no cells", 1, x -> x.copy(of + 5, 0, of, 2, 0));
            refuses("to no cells", 1, x -> x.copy(of, 2, of + 5, 0, 0));
            fails("behind an end", 3, x -> x.copy(of, 3, of, 0, 0));
            fails("behind the other end", 3, x -> x.copy(of, 0, of, 3, 0));
        }
    }

    private static void copyFaults1() {
        for (int kind = 0; kind <= 5; kind++) {
            int of = kind;
            fails("of the one", 1, x -> x.copy(0, 0, of, 0, 0));
            fails("of the other", 1, x -> x.copy(of, 0, 0, 0, 0));
            fails("ahead of 3", 1, x -> x.copy(of, -1, 0, 9, -1));
        }
    }

    private static void copyFaults4() {
        for (int one = 1; one <= 5; one++) {
            for (int other = 1; other <= 5; other++) {
                int from = one;
                int to = other;
                if (one != other || one > 3) {
                    fails(one + " to " + other, 4, x -> x.copy(from, 0, to, 0, 1));
                    fails(one + " to " + other + ", none", 4, x -> x.copy(from, 0, to, 0, 0));
                    fails(one + " to " + other + ", ahead of 3", 4, x -> x.copy(from, -1, to, 9, -1));
                }
            }
        }
    }

    private static void copyFaults3() {
        int[][] beyond = {{-1, 0, 1}, {0, -1, 1}, {0, 0, -1}, {-1, 0, 0}, {0, -1, 0}, {-1, 1, 1}, {1, -1, 1}, {2, 0, 1},
            {0, 2, 1}, {1, 0, 2}, {0, 1, 2}, {0, 0, 3}, {3, 0, -1}, {0, 3, -1}, {MOST, 0, 1}, {0, MOST, 1}, {0, 0, MOST},
            {1, 1, MOST}, {MOST, MOST, MOST}, {LEAST, 0, 1}, {0, LEAST, 1}, {0, 0, LEAST}, {LEAST, LEAST, LEAST},
            {2, 2, MOST - 1}, {MOST, 0, 0}, {0, MOST, 0}, {1, 0, LEAST}};
        for (int[] row : beyond) {
            for (int kind = 1; kind <= 3; kind++) {
                int of = kind;
                fails("at " + row[0] + " to " + row[1] + " n " + row[2], 3,
                    x -> x.copy(of, row[0], of, row[1], row[2]));
            }
        }
        for (int kind = 1; kind <= 3; kind++) {
            int of = kind;
            fails("from no cells", 3, x -> x.copy(of + 5, 0, of, 0, 1));
            fails("to no cells", 3, x -> x.copy(of, 0, of + 5, 0, 1));
        }
        noPlace("copy", (x, p) -> x.copy(p, 0, 1, 0, 0));
        noPlace("copy, other", (x, p) -> x.copy(1, 0, p, 0, 0));
    }

    private static void copyUpToTheEnds() {
        KeptTerms x = new KeptTerms();
        x.make(0, 1, 16);
        x.make(1, 1, 1);
        x.set(0, 1, 15, 5);
        due("the last", x.copy(0, 15, 1, 0, 1), 1);
        dueCells("the last", x, 1, 1, 5);
        due("to the last", x.copy(1, 0, 0, 15, 1), 1);
        due("all", x.copy(0, 0, 0, 0, 16), 1);
        due("one more than all", x.copy(0, 0, 0, 0, 17), -13);
    }

    // ---- 15 twin

    private static void twinSharesNothing() {
        for (int kind = 1; kind <= 2; kind++) {
            KeptTerms x = scene();
            due("cells", x.twin(9, kind), 2);
            due("its kind", x.held(9, 0), kind);
            due("not the same", x.same(9, kind), 0);
            due("LIKE", x.like(9, kind), 1);
            x.set(9, kind, 0, 1);
            due("its own", x.get(kind, kind, 0), 65);
        }
    }

    private static void twinOfRows() {
        KeptTerms x = scene();
        due("cells", x.twin(9, 3), 2);
        due("not the same", x.same(9, 3), 0);
        due("the same BYTES", x.take(0, 9, 0), 2);
        due("the same BYTES", x.same(0, 1), 1);
        due("nothing", x.take(0, 9, 1), -3);
        x.lay(9, 1, 6);
        due("its own cells", x.take(0, 3, 1), -3);
        x.set(1, 1, 0, 5);
        due("changed in both", x.cell(9, 0, 0), 5);
    }

    private static void twinWithNoCells() {
        for (int kind = 1; kind <= 3; kind++) {
            KeptTerms x = scene();
            due("cells", x.twin(9, kind + 5), 0);
            due("its kind", x.held(9, 0), kind);
            due("not the same", x.same(9, kind + 5), 0);
            x.make(9, kind, 16);
            due("16 cells", x.twin(0, 9), 16);
        }
    }

    private static void twinOfItself() {
        KeptTerms x = scene();
        due("cells", x.twin(1, 1), 2);
        due("another one now", x.same(1, 9), 0);
        due("LIKE", x.like(1, 9), 1);
    }

    private static void twinFaults() {
        fails("nothing", 1, x -> x.twin(9, 0));
        fails("a TABLE", 2, x -> x.twin(9, 4));
        fails("a KEEPER", 2, x -> x.twin(9, 5));
        noPlace("twin", (x, p) -> x.twin(p, 1));
        noPlace("twin, other", (x, p) -> x.twin(9, p));
    }

    private static void promises1To10() {
        says("1: All places hold nothing", PlacesBoundaries::newObject);
        says("2: The FAULT of the latest call that had one", PlacesBoundaries::theLatestFault);
        says("2: of the latest call that had one, not behind it", PlacesBoundaries::callsWithoutAFault);
        says("2: 0: none so far", PlacesBoundaries::noFaultSoFar);
        says("3: A place gets n cells (0, nothing)", PlacesBoundaries::makeCells);
        says("3: -2: kind, n above 16", PlacesBoundaries::makeOutside);
        says("3: FAULT 5", PlacesBoundaries::makeBelow0);
        says("4: for so many SLOTS (1 to 64)", PlacesBoundaries::tableOf1To64);
        says("4: -2", PlacesBoundaries::tableOutside);
        says("5: (-1: nothing)", PlacesBoundaries::moveNothing);
        says("5: A place gets what another one holds: its kind", PlacesBoundaries::moveToItself);
        says("5: -1", PlacesBoundaries::moveNoPlace);
        says("6: 0 the kind; 1 to 5 whether it is of that TYPE (1, 0)", PlacesBoundaries::heldTypes);
        says("6: -2", PlacesBoundaries::heldOutside);
        says("7: the very same one, or both nothing: 1, 0", PlacesBoundaries::sameOrBothNothing);
        says("8: How many cells", PlacesBoundaries::lengthOf0To16);
        says("8: -2", PlacesBoundaries::lengthOutside);
        says("8: FAULTS 2, 1", PlacesBoundaries::lengthFaults);
        says("9: Cell i", PlacesBoundaries::getFirstAndLast);
        says("9: CAST to a TYPE 1, 2: NOTHING", PlacesBoundaries::getOutside);
        says("9: FAULTS 2, 1, 3", PlacesBoundaries::getFaults);
        says("10: v, cast", PlacesBoundaries::setIsCast);
        says("10: Cell i", PlacesBoundaries::setFirstAndLast);
        says("10: -2", PlacesBoundaries::setOutside);
        says("10: FAULTS 2, 1, 3", PlacesBoundaries::setFaults);
    }

    private static void promises11To15() {
        says("11: or nothing", PlacesBoundaries::layNothing);
        says("11: Cell i of ROWS becomes the BYTES of another place", PlacesBoundaries::layFirstAndLast);
        says("11: FAULTS 2 (of the first, of the other), 1, 3", PlacesBoundaries::layFaults);
        says("12: -3: nothing", PlacesBoundaries::takeNothing);
        says("12: how many cells it has", PlacesBoundaries::takeCells);
        says("12: FAULTS 2, 1, 3", PlacesBoundaries::takeFaults);
        says("13: Byte j of what is in cell i", PlacesBoundaries::cellFirstAndLast);
        says("13: FAULTS 2, 1, 3 (i), 1 (nothing there), 3 (j)", PlacesBoundaries::cellFaults);
        says("13: 3 (j), of none", PlacesBoundaries::cellOfBytesWithNoCells);
        says("14: as if by way of others", PlacesBoundaries::copyByWayOfOthers);
        says("14: as if by way of others, ROWS", PlacesBoundaries::copyRowsByWayOfOthers);
        says("14: of one place from at on go to those of another one from to on", PlacesBoundaries::copyOfOneToAnother);
        says("14: n cells, nothing among them", PlacesBoundaries::copyOfNothingInCells);
        says("14: n cells, none", PlacesBoundaries::copyOfNone);
        says("14: n cells, up to the ends", PlacesBoundaries::copyUpToTheEnds);
        says("14: FAULTS 1 of either", PlacesBoundaries::copyFaults1);
        says("14: 4: one is a TABLE, or they are of unlike kinds", PlacesBoundaries::copyFaults4);
        says("14: 3: at, to, n below 0, or beyond an end", PlacesBoundaries::copyFaults3);
        says("15: a twin of another one's BYTES, SIGNS", PlacesBoundaries::twinSharesNothing);
        says("15: of these the cells are the same BYTES", PlacesBoundaries::twinOfRows);
        says("15: how many cells", PlacesBoundaries::twinWithNoCells);
        says("15: of another one, the same place", PlacesBoundaries::twinOfItself);
        says("15: FAULTS 1; 2: a TABLE", PlacesBoundaries::twinFaults);
    }

    public static void main(String[] args) {
        promises1To10();
        promises11To15();
        end();
    }
}
