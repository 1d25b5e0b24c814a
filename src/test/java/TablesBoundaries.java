/** The boundary cases that promises 20 to 28 name, sentence by sentence. */
public final class TablesBoundaries extends Sentences {

    private static final int[] NO_TABLES = {1, 2, 3};
    private static final int[] NO_BYTES = {2, 3, 4, 5};

    // ---- 20 add

    private static void addThereAlreadyOrNew() {
        for (int keeps = 0; keeps < 2; keeps++) {
            KeptTerms x = new KeptTerms();
            x.table(0, keeps == 1, 4);
            x.make(1, 1, 0);
            due("the first, with no cells", x.add(0, 1), 0);
            x.make(1, 1, 16);
            due("with 16 cells", x.add(0, 1), 1);
            due("there already", x.add(0, 1), 1);
            x.make(1, 1, 15);
            due("with 15 cells", x.add(0, 1), 2);
            x.make(1, 1, 0);
            due("there already", x.add(0, 1), 0);
            due("TERMS", x.told(0, 0), 3);
        }
    }

    private static void addItsOwnTerm() {
        for (int keeps = 0; keeps < 2; keeps++) {
            KeptTerms x = new KeptTerms();
            x.table(0, keeps == 1, 4);
            addAll(x, 0, 1);
            x.term(1, 0, 0);
            due("there already", x.add(0, 1), 0);
            x.set(1, 1, 0, 2);
            due("new, as it is now", x.add(0, 1), 1);
            x.term(2, 0, 1);
            due("a TABLE has a twin, a KEEPER the very one", x.same(1, 2), keeps);
        }
    }

    private static void addFaults() {
        for (int table : NO_TABLES) {
            for (int place = 0; place <= 5; place++) {
                int of = place;
                fails("CAST of the TABLE, " + table + ", " + place, 2, x -> x.add(table, of));
            }
        }
        for (int place : NO_BYTES) {
            for (int table = 0; table <= 5; table++) {
                int to = table;
                fails("CAST of the BYTES, " + table + ", " + place, 2, x -> x.add(to, place));
            }
        }
        fails("nothing", 1, x -> x.add(0, 1));
        fails("nothing", 1, x -> x.add(4, 0));
        fails("nothing", 1, x -> x.add(5, 0));
        fails("nothing", 1, x -> x.add(0, 0));
        noPlace("add", (x, p) -> x.add(p, 1));
        noPlace("add, other", (x, p) -> x.add(4, p));
    }

    private static void addTo100() {
        for (int keeps = 0; keeps < 2; keeps++) {
            KeptTerms x = new KeptTerms();
            fill(x, 0, keeps == 1, 64, 100);
            int[] kept = {0, 100};
            due("GREW", x.told(0, 3), 2);
            for (int k = 0; k < 3; k++) {
                due("no room", addOne(x, 0, 100 + k), -4);
            }
            due("TERMS", x.told(0, 0), 100);
            due("SLOTS", x.told(0, 1), 256);
            due("GREW", x.told(0, 3), 2);
            due("its SLOT", x.slot(0, 100), -3);
            due("kept", x.kept(), kept[keeps]);
            due("FAULT", x.fault(), 0);
            for (int k = 0; k < 100; k++) {
                due("there already", addOneAt(x, k), k);
            }
        }
    }

    /** The row at place 9 becomes another one and comes into the TABLE at 0. */
    private static int addOneAt(KeptTerms x, int number) {
        x.set(9, 1, 0, number);
        return x.add(0, 9);
    }

    private static void addTo100CountsProbes() {
        KeptTerms x = new KeptTerms();
        fill(x, 0, false, 64, 100);
        due("PROBES of the 100th", x.told(0, 2), 1);
        due("mean", mean(x), 1);
        // HASH 0, as that of the first TERM: all 100 and the SLOT behind them are looked at.
        bytes(x, 9, 0, 0);
        due("no room", x.add(0, 9), -4);
        due("PROBES", x.told(0, 2), 101);
        due("no room", x.add(0, 9), -4);
        due("in the mean", mean(x), (100 + 101 + 101) / 102);
    }

    private static void addTo99() {
        KeptTerms x = new KeptTerms();
        fill(x, 0, true, 64, 99);
        due("the 100th", addOneAt(x, 99), 99);
        due("the 101st", addOneAt(x, 100), -4);
        due("the last", x.term(1, 0, 99), 1);
        dueCells("the last", x, 1, 1, 99);
    }

    // ---- 21 find

    private static void findInAnEmptyTable() {
        for (int keeps = 0; keeps < 2; keeps++) {
            KeptTerms x = new KeptTerms();
            x.table(0, keeps == 1, 64);
            bytes(x, 1, 5);
            due("none", x.find(0, 1), -3);
            due("PROBES", x.told(0, 2), 1);
            due("counted", mean(x), 1);
            due("no TERM comes", x.told(0, 0), 0);
            due("its SLOT", x.slot(0, 5), -3);
            due("kept", x.kept(), 0);
            due("FAULT", x.fault(), 0);
        }
    }

    private static void findInAFullTable() {
        KeptTerms x = new KeptTerms();
        fill(x, 0, false, 64, 100);
        x.set(9, 1, 0, 0);
        due("the first", x.find(0, 9), 0);
        x.set(9, 1, 0, 99);
        due("the last", x.find(0, 9), 99);
        x.set(9, 1, 0, 100);
        due("none", x.find(0, 9), -3);
        due("PROBES", x.told(0, 2), 1);
        bytes(x, 9, 0, 0);
        due("none", x.find(0, 9), -3);
        due("PROBES", x.told(0, 2), 101);
        due("in the mean", mean(x), (100 + 3 + 101) / 104);
    }

    private static void findWhatKeepersKeep() {
        KeptTerms x = new KeptTerms();
        x.table(0, true, 4);
        x.table(1, true, 4);
        addAll(x, 0, 1);
        due("kept, but no TERM of it", x.find(1, 9), -3);
        due("TERM of it", x.find(0, 9), 0);
    }

    private static void findFaults() {
        for (int table : NO_TABLES) {
            for (int place = 0; place <= 5; place++) {
                int of = place;
                fails("CAST of the TABLE, " + table + ", " + place, 2, x -> x.find(table, of));
            }
        }
        for (int place : NO_BYTES) {
            for (int table = 0; table <= 5; table++) {
                int to = table;
                fails("CAST of the BYTES, " + table + ", " + place, 2, x -> x.find(to, place));
            }
        }
        fails("nothing", 1, x -> x.find(0, 1));
        fails("nothing", 1, x -> x.find(4, 0));
        fails("nothing", 1, x -> x.find(5, 0));
        fails("nothing", 1, x -> x.find(0, 0));
        noPlace("find", (x, p) -> x.find(p, 1));
        noPlace("find, other", (x, p) -> x.find(4, p));
    }

    // ---- 22 term

    private static void termFirstAndLast() {
        KeptTerms x = new KeptTerms();
        fill(x, 0, false, 1, 100);
        x.make(9, 1, 0);
        due("the first", x.term(1, 0, 0), 1);
        dueCells("the first", x, 1, 1, 0);
        due("the last", x.term(1, 0, 99), 1);
        dueCells("the last", x, 1, 1, 99);
        due("behind it", x.term(1, 0, 100), -13);
        dueCells("as it was", x, 1, 1, 99);
    }

    private static void termHowManyCells() {
        KeptTerms x = new KeptTerms();
        x.table(0, false, 32);
        for (int n = 0; n <= 16; n++) {
            x.make(1, 1, n);
            x.add(0, 1);
        }
        for (int n = 0; n <= 16; n++) {
            due("cells", x.term(1, 0, n), n);
            due("length", x.length(1, 1), n);
        }
    }

    private static void termIsTheVeryOne() {
        for (int keeps = 0; keeps < 2; keeps++) {
            KeptTerms x = new KeptTerms();
            x.table(0, keeps == 1, 4);
            addAll(x, 0, 1, 2);
            x.term(1, 0, 1);
            x.term(2, 0, 1);
            due("the very one", x.same(1, 2), 1);
            x.term(2, 0, 0);
            due("another TERM", x.same(1, 2), 0);
            x.move(3, 0);
            due("over the TABLE", x.term(0, 0, 1), 1);
            due("over the TABLE", x.same(0, 1), 1);
            due("the TABLE", x.told(3, 0), 2);
        }
    }

    private static void termFaults() {
        for (int k : new int[] {0, -1, 9, LEAST, MOST}) {
            for (int table : NO_TABLES) {
                fails("CAST of " + table, 2, x -> x.term(9, table, k));
            }
            fails("nothing", 1, x -> x.term(9, 0, k));
        }
        for (int k : new int[] {-1, 2, 3, 100, LEAST, MOST}) {
            fails("TABLE, TERM " + k, 3, x -> x.term(9, 4, k));
        }
        for (int k : new int[] {-1, 1, 2, 100, LEAST, MOST}) {
            fails("KEEPER, TERM " + k, 3, x -> x.term(9, 5, k));
        }
        KeptTerms empty = new KeptTerms();
        empty.table(0, false, 4);
        due("an empty TABLE", empty.term(1, 0, 0), -13);
        noPlace("term", (x, p) -> x.term(p, 4, 0));
        noPlace("term, TABLE", (x, p) -> x.term(9, p, 0));
    }

    // ---- 23 told

    private static void toldOfANewOne() {
        KeptTerms x = new KeptTerms();
        for (int keeps = 0; keeps < 2; keeps++) {
            x.table(0, keeps == 1, 64);
            int[] due = {0, 64, 0, 0};
            for (int what = 0; what < 4; what++) {
                due("what " + what, x.told(0, what), due[what]);
            }
        }
    }

    private static void toldProbesOfTheLatest() {
        KeptTerms x = new KeptTerms();
        x.table(0, false, 8);
        x.table(1, false, 8);
        addAll(x, 0, 1, 9, 17);
        due("by add()", x.told(0, 2), 3);
        due("of its own", x.told(1, 2), 0);
        addOne(x, 0, 1);
        due("by add() of one that is there", x.told(0, 2), 1);
        bytes(x, 9, 25);
        x.find(0, 9);
        due("by find()", x.told(0, 2), 4);
        x.find(0, 8);
        x.find(0, 10);
        x.add(0, 0);
        due("not by FAULTS, REFUSALS", x.told(0, 2), 4);
        x.merge(1, 0);
        due("by merge()", x.told(1, 2), 3);
        due("not of the other one", x.told(0, 2), 4);
        x.table(2, false, 4);
        x.merge(1, 2);
        due("not by merge() of none", x.told(1, 2), 3);
    }

    private static void toldOutside() {
        for (int what : new int[] {-1, 4, 5, LEAST, MOST}) {
            for (int kind = 0; kind <= 5; kind++) {
                int of = kind;
                refuses("what " + what, -2, x -> x.told(of, what));
            }
        }
        noPlace("told", (x, p) -> x.told(p, 0));
    }

    private static void toldFaults() {
        for (int what = 0; what < 4; what++) {
            int asked = what;
            for (int kind : NO_TABLES) {
                fails("CAST", 2, x -> x.told(kind, asked));
            }
            fails("nothing", 1, x -> x.told(0, asked));
        }
    }

    // ---- 24 slot

    private static void slotFirstAndLast() {
        KeptTerms x = new KeptTerms();
        x.table(0, false, 64);
        addAll(x, 0, 64, 63);
        due("first", x.slot(0, 0), 0);
        due("none", x.slot(0, 1), -3);
        due("last but one", x.slot(0, 62), -3);
        due("last", x.slot(0, 63), 1);
        due("behind it", x.slot(0, 64), -13);
    }

    private static void slotBehindWhereItGrew() {
        KeptTerms x = new KeptTerms();
        x.table(0, true, 4);
        addAll(x, 0, 0, 1, 2);
        due("ahead of it", x.slot(0, 4), -13);
        addAll(x, 0, 7);
        due("a SLOT now", x.slot(0, 4), -3);
        due("the last", x.slot(0, 7), 3);
        due("behind it", x.slot(0, 8), -13);
    }

    private static void slotNone() {
        refuses("none, TABLE", -3, x -> x.slot(4, 1));
        refuses("none, KEEPER", -3, x -> x.slot(5, 0));
    }

    private static void slotFaults() {
        for (int i : new int[] {0, -1, 9, LEAST, MOST}) {
            for (int kind : NO_TABLES) {
                fails("CAST", 2, x -> x.slot(kind, i));
            }
            fails("nothing", 1, x -> x.slot(0, i));
        }
        for (int i : new int[] {-1, 4, 5, 64, LEAST, MOST}) {
            fails("TABLE, SLOT " + i, 3, x -> x.slot(4, i));
            fails("KEEPER, SLOT " + i, 3, x -> x.slot(5, i));
        }
        noPlace("slot", (x, p) -> x.slot(p, 0));
    }

    // ---- 25 ranked

    private static void rankedFirstAndLast() {
        KeptTerms x = new KeptTerms();
        x.table(0, false, 64);
        x.make(9, 1, 1);
        for (int k = 0; k < 100; k++) {
            x.set(9, 1, 0, 255 - 2 * k);
            due("add", x.add(0, 9), k);
        }
        for (int i = 0; i < 100; i++) {
            due("ranked " + i, x.ranked(0, i), 99 - i);
        }
        due("behind the last", x.ranked(0, 100), -13);
    }

    private static void rankedOf100InAnyRow() {
        for (int step : new int[] {1, 37, 99}) {
            KeptTerms x = new KeptTerms();
            x.table(0, true, 64);
            x.make(9, 1, 1);
            int[] due = new int[100];
            for (int k = 0; k < 100; k++) {
                // The steps and 100 have no divisor in common, so that each number comes once.
                due[k * step % 100] = k;
                x.set(9, 1, 0, 100 + k * step % 100);
                x.add(0, 9);
            }
            for (int i = 0; i < 100; i++) {
                due("step " + step + ", ranked " + i, x.ranked(0, i), due[i]);
            }
        }
    }

    private static void rankedOfOneAndTwo() {
        KeptTerms x = new KeptTerms();
        x.table(0, true, 4);
        x.make(1, 1, 0);
        due("of none", x.ranked(0, 0), -13);
        addAll(x, 0, 5);
        due("of one", x.ranked(0, 0), 0);
        due("behind it", x.ranked(0, 1), -13);
        x.add(0, 1);
        due("none is less", x.ranked(0, 0), 1);
        due("some", x.ranked(0, 1), 0);
    }

    private static void rankedAsTheyAreNow() {
        KeptTerms x = new KeptTerms();
        x.table(0, false, 4);
        addAll(x, 0, 1, 2, 3);
        x.term(1, 0, 0);
        x.set(1, 1, 0, 128);
        int[] due = {1, 2, 0};
        for (int i = 0; i < 3; i++) {
            due("ranked " + i, x.ranked(0, i), due[i]);
        }
        due("FAULT", x.fault(), 0);
    }

    private static void rankedOfLikeOnes() {
        KeptTerms x = new KeptTerms();
        x.table(0, false, 16);
        addAll(x, 0, 9, 8, 7, 6, 5, 4);
        for (int k : new int[] {4, 1, 3}) {
            x.term(1, 0, k);
            x.set(1, 1, 0, 7);
        }
        int[] due = {5, 1, 2, 3, 4, 0};
        for (int i = 0; i < 6; i++) {
            due("ranked " + i, x.ranked(0, i), due[i]);
        }
    }

    private static void rankedFaults() {
        for (int i : new int[] {0, -1, 9, LEAST, MOST}) {
            for (int kind : NO_TABLES) {
                fails("CAST", 2, x -> x.ranked(kind, i));
            }
            fails("nothing", 1, x -> x.ranked(0, i));
        }
        for (int i : new int[] {-1, 2, 3, 100, LEAST, MOST}) {
            fails("TABLE, " + i, 3, x -> x.ranked(4, i));
        }
        for (int i : new int[] {-1, 1, 2, 100, LEAST, MOST}) {
            fails("KEEPER, " + i, 3, x -> x.ranked(5, i));
        }
        noPlace("ranked", (x, p) -> x.ranked(p, 0));
    }

    // ---- 26 merge

    private static void mergeOfNone() {
        KeptTerms x = new KeptTerms();
        x.table(0, false, 4);
        x.table(1, true, 4);
        due("none to none", x.merge(0, 1), 0);
        due("none was done", mean(x), THROWN);
        addAll(x, 0, 1, 2);
        due("none to some", x.merge(0, 1), 0);
        due("TERMS", x.told(0, 0), 2);
        due("some to none", x.merge(1, 0), 2);
        due("again", x.merge(1, 0), 0);
        due("FAULT", x.fault(), 0);
    }

    private static void mergeByTheirNumbers() {
        KeptTerms x = new KeptTerms();
        x.table(0, false, 4);
        x.table(1, false, 4);
        addAll(x, 0, 3, 2, 1, 7);
        addAll(x, 1, 1, 5);
        due("how many were new", x.merge(1, 0), 3);
        int[] due = {1, 5, 3, 2, 7};
        for (int k = 0; k < 5; k++) {
            x.term(2, 1, k);
            dueCells("TERM " + k, x, 2, 1, due[k]);
        }
        due("GREW", x.told(1, 3), 1);
        due("the other one", x.told(0, 0), 4);
    }

    private static void mergeTwinsAndKept() {
        KeptTerms x = new KeptTerms();
        x.table(0, true, 4);
        x.table(1, false, 4);
        x.table(2, true, 4);
        addAll(x, 0, 1);
        x.merge(1, 0);
        x.merge(2, 1);
        x.term(3, 0, 0);
        x.term(4, 1, 0);
        x.term(5, 2, 0);
        due("a TABLE has a twin", x.same(3, 4), 0);
        due("a KEEPER has what is kept", x.same(3, 5), 1);
        due("kept", x.kept(), 1);
    }

    private static void mergeWithItself() {
        for (int keeps = 0; keeps < 2; keeps++) {
            KeptTerms x = new KeptTerms();
            x.table(0, keeps == 1, 8);
            addAll(x, 0, 1, 2, 3);
            due("with itself", x.merge(0, 0), 0);
            due("PROBES", x.told(0, 2), 1);
            x.move(1, 0);
            due("at another place", x.merge(1, 0), 0);
            x.term(2, 0, 1);
            x.set(2, 1, 0, 7);
            due("changed", x.merge(0, 0), 1);
            due("TERMS", x.told(0, 0), 4);
        }
    }

    private static void mergeFaults() {
        for (int kind : NO_TABLES) {
            for (int other = 0; other <= 5; other++) {
                int another = other;
                fails("CAST of the first", 2, x -> x.merge(kind, another));
                fails("CAST of the other", 2, x -> x.merge(another, kind));
            }
        }
        for (int kind : new int[] {0, 4, 5}) {
            fails("nothing first", 1, x -> x.merge(0, kind));
            fails("nothing then", 1, x -> x.merge(kind, 0));
        }
        noPlace("merge", (x, p) -> x.merge(p, 4));
        noPlace("merge, other", (x, p) -> x.merge(4, p));
    }

    private static void mergeWithoutRoom() {
        for (int keeps = 0; keeps < 2; keeps++) {
            KeptTerms x = new KeptTerms();
            x.table(1, false, 4);
            addAll(x, 1, 97, 98, 120, 121, 122, 96);
            fill(x, 0, keeps == 1, 64, 98);
            due("no room", x.merge(0, 1), -4);
            due("TERMS", x.told(0, 0), 100);
            for (int k = 98; k < 100; k++) {
                x.term(2, 0, k);
                dueCells("those before have come", x, 2, 1, k == 98 ? 98 : 120);
            }
            due("kept", x.kept(), keeps * 100);
            due("PROBES of the one that did not", x.told(0, 2), 1);
            due("FAULT", x.fault(), 0);
            due("again", x.merge(0, 1), -4);
            due("TERMS", x.told(0, 0), 100);
        }
    }

    private static void mergeUpTo100() {
        KeptTerms x = new KeptTerms();
        x.table(1, false, 4);
        addAll(x, 1, 97, 98, 99);
        fill(x, 0, false, 64, 98);
        due("just as many", x.merge(0, 1), 2);
        due("TERMS", x.told(0, 0), 100);
        due("none is new", x.merge(0, 1), 0);
        due("none is new", x.merge(0, 0), 0);
    }

    private static void mergeWithoutRoomCountsProbes() {
        KeptTerms x = new KeptTerms();
        x.table(1, false, 4);
        bytes(x, 2, 0, 0);
        x.add(1, 2);
        fill(x, 0, false, 64, 100);
        due("no room", x.merge(0, 1), -4);
        due("PROBES", x.told(0, 2), 101);
        x.merge(0, 1);
        due("in the mean", mean(x), (101 + 202) / 103);
    }

    // ---- 27 kept

    private static void keptInAll() {
        KeptTerms x = new KeptTerms();
        due("none", x.kept(), 0);
        x.table(0, true, 4);
        x.table(1, true, 4);
        x.table(2, false, 4);
        due("by new KEEPERS", x.kept(), 0);
        addAll(x, 0, 1, 2);
        addAll(x, 1, 2, 3);
        addAll(x, 2, 4);
        due("of both, each once", x.kept(), 3);
        addOne(x, 0, 1);
        bytes(x, 9, 5);
        x.find(0, 9);
        due("add() of one that is there, find()", x.kept(), 3);
    }

    private static void keptByNoTable() {
        KeptTerms x = new KeptTerms();
        x.table(0, true, 4);
        addAll(x, 0, 1, 2);
        x.term(1, 0, 1);
        x.move(0, -1);
        due("no TABLE has them", x.kept(), 2);
        x.table(0, true, 4);
        due("a new KEEPER", x.kept(), 2);
        due("has no TERM", x.told(0, 0), 0);
        addAll(x, 0, 2);
        due("kept still", x.kept(), 2);
        x.term(2, 0, 0);
        due("the very one", x.same(1, 2), 1);
    }

    private static void keptAbove100() {
        KeptTerms x = new KeptTerms();
        fill(x, 0, true, 64, 100);
        x.table(1, true, 64);
        for (int k = 100; k < 200; k++) {
            x.set(9, 1, 0, k);
            due("add", x.add(1, 9), k - 100);
        }
        due("of two", x.kept(), 200);
        x.table(2, true, 64);
        for (int k = 0; k < 2; k++) {
            x.set(9, 1, 0, 199 * k);
            due("add", x.add(2, 9), k);
        }
        due("the eldest and the youngest are kept already", x.kept(), 200);
        x.term(3, 1, 99);
        x.term(4, 2, 1);
        due("the very one", x.same(3, 4), 1);
    }

    // ---- 28 mean

    private static void meanOfNone() {
        KeptTerms x = new KeptTerms();
        due("none", mean(x), THROWN);
        due("again", mean(x), THROWN);
        due("no FAULT", x.fault(), 0);
        x.table(0, false, 4);
        x.make(1, 1, 0);
        x.add(0, 2);
        x.add(1, 1);
        x.add(0, 10);
        x.find(0, 2);
        x.find(1, 1);
        x.find(10, 1);
        x.merge(0, 0);
        due("FAULTS, REFUSALS, none that came", mean(x), THROWN);
        x.find(0, 1);
        due("one", mean(x), 1);
    }

    private static void meanIsNotTheMachinesFault() {
        try {
            due("mean of none", new KeptTerms().mean(), THROWN);
        } catch (ArithmeticException e) {
            due("thrown by a division", "/ by zero".equals(e.getMessage()) ? 1 : 0, 0);
        }
    }

    private static void meanIsCut() {
        KeptTerms x = new KeptTerms();
        x.table(0, false, 8);
        addAll(x, 0, 0, 8);
        due("3 by 2", mean(x), 1);
        addAll(x, 0, 16);
        due("6 by 3", mean(x), 2);
        bytes(x, 9, 5);
        x.find(0, 9);
        due("7 by 4", mean(x), 1);
        bytes(x, 9, 24);
        x.find(0, 9);
        due("11 by 5", mean(x), 2);
        x.find(0, 9);
        due("15 by 6", mean(x), 2);
        x.find(0, 9);
        x.find(0, 9);
        due("23 by 8", mean(x), 2);
        x.find(0, 9);
        due("27 by 9", mean(x), 3);
    }

    private static void meanOfAll() {
        KeptTerms x = new KeptTerms();
        x.table(0, false, 8);
        addAll(x, 0, 0, 8, 16);
        x.table(1, true, 8);
        addAll(x, 1, 0, 8, 16, 24);
        due("of two", mean(x), (1 + 2 + 3 + 1 + 2 + 3 + 4) / 7);
        x.move(0, -1);
        x.find(1, 9);
        due("of one that is gone, too", mean(x), (16 + 4) / 8);
        x.table(2, false, 64);
        for (int k = 0; k < 4; k++) {
            x.merge(2, 1);
        }
        due("by merge(), too", mean(x), (20 + 16) / 24);
        for (int k = 0; k < 6; k++) {
            due("add() of one that is there", x.add(1, 9), 3);
        }
        due("as well", mean(x), (36 + 24) / 30);
    }

    private static void promises20To24() {
        says("20: the number of the TERM (there already, or new)", TablesBoundaries::addThereAlreadyOrNew);
        says("20: BYTES come into a TABLE, its own", TablesBoundaries::addItsOwnTerm);
        says("20: FAULTS 2 (of the TABLE, of the BYTES), 1", TablesBoundaries::addFaults);
        says("20: -4: 100", TablesBoundaries::addTo100);
        says("20: PROBES are counted, too", TablesBoundaries::addTo100CountsProbes);
        says("20: -4: 100, not before", TablesBoundaries::addTo99);
        says("21: -3: none", TablesBoundaries::findInAnEmptyTable);
        says("21: The number of the TERM that is LIKE BYTES", TablesBoundaries::findInAFullTable);
        says("21: The number of the TERM, not what is kept", TablesBoundaries::findWhatKeepersKeep);
        says("21: FAULTS as add()", TablesBoundaries::findFaults);
        says("22: TERM k of a TABLE", TablesBoundaries::termFirstAndLast);
        says("22: how many cells", TablesBoundaries::termHowManyCells);
        says("22: the very BYTES", TablesBoundaries::termIsTheVeryOne);
        says("22: FAULTS 2, 1, 3", TablesBoundaries::termFaults);
        says("23: 0 TERMS, 1 SLOTS, 2 PROBES, 3 how often it GREW", TablesBoundaries::toldOfANewOne);
        says("23: of its latest add() or find() (also by merge())", TablesBoundaries::toldProbesOfTheLatest);
        says("23: -2", TablesBoundaries::toldOutside);
        says("23: FAULTS 2, 1", TablesBoundaries::toldFaults);
        says("24: The TERM in SLOT i", TablesBoundaries::slotFirstAndLast);
        says("24: The TERM in SLOT i, of a TABLE that GREW", TablesBoundaries::slotBehindWhereItGrew);
        says("24: -3: none", TablesBoundaries::slotNone);
        says("24: FAULTS 2, 1, 3", TablesBoundaries::slotFaults);
    }

    private static void promises25To28() {
        says("25: The TERM at place i by order of BYTES", TablesBoundaries::rankedFirstAndLast);
        says("25: by order of BYTES, 100 of them", TablesBoundaries::rankedOf100InAnyRow);
        says("25: at place i, of none, one, two", TablesBoundaries::rankedOfOneAndTwo);
        says("25: as they are now", TablesBoundaries::rankedAsTheyAreNow);
        says("25: of like ones the least number first", TablesBoundaries::rankedOfLikeOnes);
        says("25: FAULTS 2, 1, 3", TablesBoundaries::rankedFaults);
        says("26: All TERMS, none", TablesBoundaries::mergeOfNone);
        says("26: by their numbers: how many were new", TablesBoundaries::mergeByTheirNumbers);
        says("26: All TERMS come", TablesBoundaries::mergeTwinsAndKept);
        says("26: of another TABLE, the same one", TablesBoundaries::mergeWithItself);
        says("26: FAULTS 2, 1 (of the first, of the other)", TablesBoundaries::mergeFaults);
        says("26: -4: those before have come", TablesBoundaries::mergeWithoutRoom);
        says("26: -4, not before", TablesBoundaries::mergeUpTo100);
        says("26: -4, PROBES", TablesBoundaries::mergeWithoutRoomCountsProbes);
        says("27: How many rows KEEPERS keep in all", TablesBoundaries::keptInAll);
        says("27: also those that no TABLE has any more", TablesBoundaries::keptByNoTable);
        says("27: in all, more than a TABLE has", TablesBoundaries::keptAbove100);
        says("28: ArithmeticException: none was done", TablesBoundaries::meanOfNone);
        says("28: ArithmeticException, by a throw", TablesBoundaries::meanIsNotTheMachinesFault);
        says("28: cut", TablesBoundaries::meanIsCut);
        says("28: PROBES of all add(), find() by how many of these there were", TablesBoundaries::meanOfAll);
    }

    public static void main(String[] args) {
        promises20To24();
        promises25To28();
        end();
    }
}
