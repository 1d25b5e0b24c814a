/** The boundary cases that the document names in "What it is", "The public face" and "Terms". */
public final class TermsBoundaries extends Sentences {

    private static void the512thCall() {
        KeptTerms x = new KeptTerms();
        for (int k = 0; k < 3; k++) {
            x.table(k, true, 1);
        }
        x.make(3, 1, 3);
        for (int k = 0; k < 253; k++) {
            due("set", x.set(3, 1, k / 100, k), 1);
            due("add", x.add(k / 100, 3), k % 100);
        }
        due("the 511th call", x.told(2, 0), 53);
        due("the 512th call", x.kept(), 253);
    }

    private static void nothing() {
        due("NOTHING", KeptTerms.NOTHING, Long.MIN_VALUE);
    }

    private static void firstAndLastPlace() {
        KeptTerms x = new KeptTerms();
        for (int place = 0; place < 10; place++) {
            due("at first", x.held(place, 0), 0);
            due("make", x.make(place, 1, place), 1);
        }
        for (int place = 0; place < 10; place++) {
            due("length", x.length(place, 1), place);
        }
        due("place -1", x.held(-1, 0), -1);
        due("place 10", x.held(10, 0), -1);
    }

    private static void everyCallAtTheLastPlaces() {
        KeptTerms x = new KeptTerms();
        bytes(x, 9, 1);
        x.make(0, 3, 1);
        due("lay", x.lay(0, 0, 9), 1);
        due("cell", x.cell(0, 0, 0), 1);
        due("take", x.take(9, 0, 0), 1);
        due("table", x.table(0, false, 4), 4);
        due("add", x.add(0, 9), 0);
        due("find", x.find(0, 9), 0);
        due("told", x.told(0, 0), 1);
        due("slot", x.slot(0, 1), 0);
        due("ranked", x.ranked(0, 0), 0);
        due("move", x.move(9, 0), 4);
        due("merge", x.merge(9, 0), 0);
        due("merge", x.merge(0, 9), 0);
        due("term", x.term(0, 9, 0), 1);
        due("twin", x.twin(9, 0), 1);
        due("like", x.like(9, 0), 1);
        due("like", x.like(0, 9), 1);
        due("order", x.order(9, 0), -100);
        due("hash", x.hash(9), 1);
        due("hash", x.hash(0), 1);
        due("named", x.named(9), 0);
        due("copy", x.copy(9, 0, 0, 0, 1), 1);
        due("copy", x.copy(0, 0, 9, 0, 1), 1);
        due("same", x.same(0, 9), 0);
        due("fault", x.fault(), 0);
    }

    private static void severalHoldTheSame() {
        KeptTerms x = new KeptTerms();
        bytes(x, 0, 1);
        for (int place = 1; place < 10; place++) {
            x.move(place, place - 1);
        }
        x.set(9, 1, 0, 7);
        for (int place = 0; place < 10; place++) {
            due("changed at another place", x.get(place, 1, 0), 7);
        }
        x.make(9, 1, 1);
        due("another one here", x.get(9, 1, 0), 0);
        due("as it was there", x.get(8, 1, 0), 7);
        x.table(0, false, 4);
        x.move(1, 0);
        x.add(1, 9);
        due("a TABLE", x.told(0, 0), 1);
    }

    private static void keepersAreTables() {
        KeptTerms x = scene();
        due("a KEEPER is of TYPE 4", x.held(5, 4), 1);
        due("a KEEPER is of TYPE 5", x.held(5, 5), 1);
        due("a TABLE is of TYPE 4", x.held(4, 4), 1);
        due("a TABLE is not of TYPE 5", x.held(4, 5), 0);
        due("add", x.add(5, 6), 1);
        due("find", x.find(5, 6), 1);
        due("term", x.term(0, 5, 1), 0);
        due("told", x.told(5, 0), 2);
        due("slot", x.slot(5, 0), 1);
        due("ranked", x.ranked(5, 0), 1);
        due("merge", x.merge(5, 4), 0);
        due("merge", x.merge(4, 5), 0);
    }

    private static void nothingMayBeCast() {
        for (int type = 1; type <= 3; type++) {
            int to = type;
            fails("length", 1, x -> x.length(0, to));
        }
        for (int type = 1; type <= 2; type++) {
            int to = type;
            failsFar("get", 1, x -> x.get(0, to, 0));
            fails("set", 1, x -> x.set(0, to, 0, 0));
        }
        fails("lay", 1, x -> x.lay(0, 0, 1));
        fails("take", 1, x -> x.take(9, 0, 0));
        failsFar("cell", 1, x -> x.cell(0, 0, 0));
        fails("order", 1, x -> x.order(0, 0));
        fails("add", 1, x -> x.add(0, 0));
        fails("find", 1, x -> x.find(0, 0));
        fails("term", 1, x -> x.term(9, 0, 0));
        fails("told", 1, x -> x.told(0, 0));
        fails("slot", 1, x -> x.slot(0, 0));
        fails("ranked", 1, x -> x.ranked(0, 0));
        fails("merge", 1, x -> x.merge(0, 0));
    }

    private static void answersOfFaults() {
        fails("1", 1, x -> x.twin(9, 0));
        fails("2", 2, x -> x.set(9, 2, 0, 1));
        fails("3", 3, x -> x.set(9, 1, 2, 1));
        fails("4", 4, x -> x.copy(1, 0, 2, 0, 1));
        fails("5", 5, x -> x.make(9, 1, -1));
        failsFar("1, a long", 1, x -> x.get(0, 1, 0));
        failsFar("2, a long", 2, x -> x.get(2, 1, 0));
        failsFar("3, a long", 3, x -> x.get(1, 1, 2));
    }

    private static void likeIsTheSameNumbersInRow() {
        KeptTerms x = new KeptTerms();
        int[][] rows = {{}, {0}, {0, 0}, {1, 2}, {2, 1}, {1, 2, 0}, {1, 3}, {-1, 2}};
        for (int a = 0; a < rows.length; a++) {
            for (int b = 0; b < rows.length; b++) {
                bytes(x, 0, rows[a]);
                bytes(x, 1, rows[b]);
                due("BYTES " + a + ", " + b, x.like(0, 1), a == b ? 1 : 0);
            }
            x = new KeptTerms();
        }
        for (int a = 0; a < rows.length; a++) {
            for (int b = 0; b < rows.length; b++) {
                signs(x, 0, rows[a]);
                signs(x, 1, rows[b]);
                due("SIGNS " + a + ", " + b, x.like(0, 1), a == b ? 1 : 0);
            }
            x = new KeptTerms();
        }
    }

    private static void hashFrom0On() {
        KeptTerms x = new KeptTerms();
        x.make(0, 1, 0);
        x.make(1, 2, 0);
        due("no BYTES", x.hash(0), 0);
        due("no SIGNS", x.hash(1), 0);
        bytes(x, 0, 5);
        due("one", x.hash(0), 5);
        bytes(x, 0, 0, 0, 5);
        due("zeros ahead", x.hash(0), 5);
        bytes(x, 0, 1, 2, 3);
        due("31 times", x.hash(0), (1 * 31 + 2) * 31 + 3);
    }

    private static void hashWithSign() {
        KeptTerms x = new KeptTerms();
        bytes(x, 0, 127);
        due("127", x.hash(0), 127);
        bytes(x, 0, 128);
        due("128 is -128", x.hash(0), -128);
        bytes(x, 0, 255, 255);
        due("255 is -1", x.hash(0), -32);
        signs(x, 0, 128);
        due("a sign has none", x.hash(0), 128);
        signs(x, 0, 65535, 65535);
        due("a sign has none", x.hash(0), 32 * 65535);
    }

    private static void hashIn32Bits() {
        KeptTerms x = new KeptTerms();
        int signs = 0;
        int bytes = 0;
        x.make(0, 2, 16);
        x.make(1, 1, 16);
        for (int i = 0; i < 16; i++) {
            x.set(0, 2, i, 65535);
            x.set(1, 1, i, -128);
            signs = 31 * signs + 65535;
            bytes = 31 * bytes - 128;
        }
        due("16 of the most", x.hash(0), signs);
        due("16 of the least", x.hash(1), bytes);
    }

    private static void hashAtTheWrap() {
        KeptTerms x = new KeptTerms();
        long[] sums = {2147483647L, 2147483648L, 4294967295L, 4294967296L};
        long[] hashes = {2147483647L, -2147483648L, -1, 0};
        for (int k = 0; k < sums.length; k++) {
            signs(x, 0, cellsOf(sums[k]));
            due("a sum of " + sums[k], x.hash(0), hashes[k]);
        }
    }

    /** The digits of a number by 31, the first one as large as it must be. */
    private static int[] cellsOf(long number) {
        int[] cells = new int[6];
        for (int i = 5; i > 0; i--) {
            cells[i] = (int) (number % 31);
            number /= 31;
        }
        cells[0] = (int) number;
        return cells;
    }

    private static void lessWithoutSign() {
        dueOrder(new int[] {127}, new int[] {128});
        dueOrder(new int[] {0}, new int[] {255});
        dueOrder(new int[] {1}, new int[] {-1});
        dueOrder(new int[] {128}, new int[] {255});
        dueOrder(new int[] {-128}, new int[] {-1});
    }

    private static void lessAtTheFirstThatDiffers() {
        dueOrder(new int[] {1, 9, 9}, new int[] {2, 0, 0});
        dueOrder(new int[] {5, 1, 9}, new int[] {5, 2, 0});
        dueOrder(new int[] {1, 2, 3}, new int[] {2});
        dueOrder(new int[] {1}, new int[] {2, 0});
        int[] one = new int[16];
        int[] other = new int[16];
        other[15] = 1;
        dueOrder(one, other);
    }

    private static void whatTheOtherBeginsWithIsLess() {
        dueOrder(new int[] {}, new int[] {0});
        dueOrder(new int[] {0}, new int[] {0, 0});
        dueOrder(new int[] {255}, new int[] {255, 0});
        dueOrder(new int[15], new int[16]);
    }

    private static void dueOrder(int[] less, int[] more) {
        KeptTerms x = new KeptTerms();
        bytes(x, 0, less);
        bytes(x, 1, more);
        due("less", x.order(0, 1), -101);
        due("more", x.order(1, 0), -99);
        due("LIKE", x.order(0, 0), -100);
    }

    private static void slotsAreAPowerOfTwo() {
        KeptTerms x = new KeptTerms();
        for (int asked = 1; asked <= 64; asked++) {
            int slots = asked <= 4 ? 4 : asked <= 8 ? 8 : asked <= 16 ? 16 : asked <= 32 ? 32 : 64;
            due("asked " + asked, x.table(0, asked % 2 == 0, asked), slots);
            due("told", x.told(0, 1), slots);
            due("the last SLOT", x.slot(0, slots - 1), -3);
            due("behind it", x.slot(0, slots), -13);
        }
    }

    private static void noTwoLike() {
        KeptTerms x = new KeptTerms();
        x.table(0, false, 4);
        x.table(1, true, 4);
        for (int k = 0; k < 3; k++) {
            bytes(x, 2, 4, 4);
            due("TABLE", x.add(0, 2), 0);
            due("KEEPER", x.add(1, 2), 0);
        }
        due("TERMS", x.told(0, 0), 1);
        due("TERMS", x.told(1, 0), 1);
    }

    private static void atMost100Terms() {
        for (int k = 0; k < 2; k++) {
            KeptTerms x = new KeptTerms();
            fill(x, 0, k == 1, 1, 99);
            due("the 100th", addOne(x, 0, 99), 99);
            due("the 101st", addOne(x, 0, 100), -4);
            due("TERMS", x.told(0, 0), 100);
            due("one that is there", addOne(x, 0, 50), 50);
            due("behind the last", x.term(1, 0, 100), -13);
        }
    }

    private static void aSlotHasATermOrNone() {
        KeptTerms x = new KeptTerms();
        x.table(0, false, 4);
        dueSlots("new", x, 0, -3, -3, -3, -3);
        addAll(x, 0, 2);
        dueSlots("one", x, 0, -3, -3, 0, -3);
    }

    private static void theFirstSlot() {
        // HASH 31^3 * 70 + .. is above 16 bits: what is above them counts by xor.
        dueSlot(70, 1, 2, 3);
        dueSlot(127, 127, 127, 127, 127, 127, 127);
        dueSlot(-1);
        dueSlot(-2);
        dueSlot(-128);
        dueSlot(-128, -128, -128, -128, -128, -128, -128);
        dueSlot();
    }

    private static void dueSlot(int... numbers) {
        int hash = 0;
        for (int number : numbers) {
            hash = 31 * hash + number;
        }
        long mixed = (hash & 0xFFFFFFFFL) ^ ((hash & 0xFFFFFFFFL) / 65536);
        for (int slots = 4; slots <= 64; slots *= 2) {
            KeptTerms x = new KeptTerms();
            x.table(0, false, slots);
            bytes(x, 1, numbers);
            x.add(0, 1);
            due("SLOT", x.slot(0, (int) (mixed % slots)), 0);
            due("PROBES", x.told(0, 2), 1);
        }
    }

    private static void lookedForRound() {
        KeptTerms x = new KeptTerms();
        x.table(0, false, 4);
        addAll(x, 0, 3, 7, 11);
        dueSlots("round", x, 0, 1, 2, -3, 0);
        due("round", x.find(0, 9), 2);
        due("PROBES", x.told(0, 2), 3);
        bytes(x, 9, 15);
        due("all SLOTS", x.find(0, 9), -3);
        due("PROBES", x.told(0, 2), 4);
    }

    private static void upToOneThatIsLikeOrNone() {
        KeptTerms x = new KeptTerms();
        x.table(0, false, 8);
        addAll(x, 0, 0, 8, 16, 4);
        int[][] looks = {{0, 0, 1}, {8, 1, 2}, {16, 2, 3}, {24, -3, 4}, {1, -3, 3}, {2, -3, 2}, {3, -3, 1}, {4, 3, 1},
            {12, -3, 2}};
        for (int[] look : looks) {
            bytes(x, 9, look[0]);
            due("find " + look[0], x.find(0, 9), look[1]);
            due("PROBES " + look[0], x.told(0, 2), look[2]);
        }
    }

    private static void growsAboveThreeQuarters() {
        for (int slots = 4; slots <= 64; slots *= 2) {
            KeptTerms x = new KeptTerms();
            fill(x, 0, slots % 3 == 1, slots, slots * 3 / 4);
            due("three quarters", x.told(0, 1), slots);
            due("GREW", x.told(0, 3), 0);
            due("one more", addOne(x, 0, 100), slots * 3 / 4);
            due("twice as many", x.told(0, 1), 2 * slots);
            due("GREW", x.told(0, 3), 1);
        }
    }

    private static void growsAgainAndAgain() {
        KeptTerms x = new KeptTerms();
        x.table(0, false, 1);
        x.make(9, 1, 1);
        int slots = 4;
        int grew = 0;
        for (int k = 0; k < 100; k++) {
            x.set(9, 1, 0, k);
            due("add", x.add(0, 9), k);
            if (k + 1 > slots * 3 / 4) {
                slots *= 2;
                grew++;
            }
            due("SLOTS for " + k, x.told(0, 1), slots);
            due("GREW at " + k, x.told(0, 3), grew);
        }
        due("SLOTS of 100", slots, 256);
    }

    private static void whatIsThereDoesNotGrow() {
        KeptTerms x = new KeptTerms();
        x.table(0, false, 4);
        addAll(x, 0, 0, 1, 2);
        due("there", addOne(x, 0, 1), 1);
        bytes(x, 9, 3);
        due("not there", x.find(0, 9), -3);
        due("SLOTS", x.told(0, 1), 4);
        due("GREW", x.told(0, 3), 0);
    }

    private static void putInAnewByTheirNumbers() {
        KeptTerms x = new KeptTerms();
        x.table(0, false, 4);
        // By SLOTS 11 would come ahead of 3: it went round to SLOT 0.
        addAll(x, 0, 3, 11, 19, 27);
        dueSlots("by numbers", x, 0, -3, -3, -3, 0, 1, 2, 3, -3);
    }

    private static void putInAnewRound() {
        KeptTerms x = new KeptTerms();
        x.table(0, false, 4);
        addAll(x, 0, 7, 15, 23, 31);
        dueSlots("round", x, 0, 1, 2, 3, -3, -3, -3, -3, 0);
    }

    private static void putInAnewThoughLike() {
        KeptTerms x = new KeptTerms();
        x.table(0, false, 4);
        addAll(x, 0, 1, 2, 3);
        for (int k = 0; k < 3; k++) {
            x.term(1, 0, k);
            x.set(1, 1, 0, 6);
        }
        addAll(x, 0, 4);
        dueSlots("like ones, each into its own", x, 0, 2, -3, -3, -3, 3, -3, 0, 1);
    }

    private static void growsWithoutProbes() {
        KeptTerms x = new KeptTerms();
        x.table(0, false, 4);
        addAll(x, 0, 3, 7, 11, 15);
        due("PROBES", x.told(0, 2), 4);
        due("mean", mean(x), (1 + 2 + 3 + 4) / 4);
        due("SLOTS", x.told(0, 1), 8);
    }

    private static void changedAtPlaces() {
        KeptTerms x = new KeptTerms();
        x.table(0, false, 8);
        addAll(x, 0, 1, 2);
        x.term(1, 0, 0);
        x.set(1, 1, 0, 2);
        bytes(x, 9, 1);
        due("LIKE no more", x.find(0, 9), -3);
        due("PROBES", x.told(0, 2), 3);
        due("looked for from its SLOT now on", x.find(0, 1), 1);
        x.set(1, 1, 0, 9);
        due("LIKE now", x.find(0, 1), 0);
        due("PROBES", x.told(0, 2), 1);
    }

    private static void changedBeforeItGrows() {
        KeptTerms x = new KeptTerms();
        x.table(0, false, 4);
        addAll(x, 0, 0, 1, 2);
        x.term(1, 0, 0);
        x.set(1, 1, 0, 7);
        addAll(x, 0, 3);
        dueSlots("HASH as it is", x, 0, -3, 1, 2, 3, -3, -3, -3, 0);
    }

    private static void aTableHasATwin() {
        KeptTerms x = new KeptTerms();
        x.table(0, false, 4);
        bytes(x, 1, 5);
        x.add(0, 1);
        x.term(2, 0, 0);
        due("not the very one", x.same(1, 2), 0);
        due("LIKE", x.like(1, 2), 1);
        x.set(1, 1, 0, 6);
        due("shares nothing", x.get(2, 1, 0), 5);
        x.table(3, false, 4);
        x.add(3, 2);
        x.term(4, 3, 0);
        due("another TABLE has its own", x.same(2, 4), 0);
        due("kept", x.kept(), 0);
    }

    private static void aKeeperHasWhatIsKept() {
        KeptTerms x = keepersWith(1, 2);
        x.table(2, true, 4);
        addAll(x, 2, 1);
        x.term(3, 0, 0);
        x.term(4, 2, 0);
        due("the very one", x.same(3, 4), 1);
        due("not what came", x.same(4, 9), 0);
        due("kept", x.kept(), 2);
    }

    private static void likeAsItIsNow() {
        KeptTerms x = keepersWith(1, 2);
        x.term(3, 0, 0);
        x.set(3, 1, 0, 5);
        x.table(2, true, 4);
        addAll(x, 2, 5);
        x.term(4, 2, 0);
        due("changed to it", x.same(3, 4), 1);
        due("kept", x.kept(), 2);
        addAll(x, 2, 1);
        due("changed from it", x.kept(), 3);
    }

    private static void theEldestFirst() {
        KeptTerms x = keepersWith(1, 2);
        x.term(3, 0, 0);
        x.set(3, 1, 0, 2);
        x.table(2, true, 4);
        addAll(x, 2, 2);
        x.term(4, 2, 0);
        due("the eldest", x.same(3, 4), 1);
        x.set(3, 1, 0, 1);
        x.table(2, true, 4);
        addAll(x, 2, 2);
        x.term(4, 2, 0);
        x.term(5, 1, 0);
        due("the eldest that is LIKE", x.same(4, 5), 1);
        due("kept", x.kept(), 2);
    }

    private static void elseATwinIsKept() {
        KeptTerms x = keepersWith(1, 2);
        bytes(x, 6, 3);
        x.add(0, 6);
        due("kept", x.kept(), 3);
        x.term(3, 0, 1);
        due("a twin", x.same(3, 6), 0);
        x.set(6, 1, 0, 4);
        due("shares nothing", x.get(3, 1, 0), 3);
        addAll(x, 1, 3);
        x.term(4, 1, 1);
        due("from then on", x.same(3, 4), 1);
    }

    private static void oneRowTwiceInAKeeper() {
        KeptTerms x = keepersWith(1, 2);
        x.term(3, 0, 0);
        x.set(3, 1, 0, 3);
        due("it is not where it is looked for", x.add(0, 3), 1);
        x.term(4, 0, 1);
        due("one and the same", x.same(3, 4), 1);
        due("kept", x.kept(), 2);
    }

    /** A KEEPER at 0 that has one TERM, another at 1 that has another. */
    private static KeptTerms keepersWith(int elder, int younger) {
        KeptTerms x = new KeptTerms();
        x.table(0, true, 4);
        x.table(1, true, 4);
        addAll(x, 0, elder);
        addAll(x, 1, younger);
        return x;
    }

    private static void refusedTakeAndFind() {
        KeptTerms x = scene();
        due("take", x.take(9, 3, 1), -3);
        due("holds nothing then", x.held(9, 0), 0);
        due("the cell", x.take(0, 3, 1), -3);
        bytes(x, 9, 3);
        due("find", x.find(4, 9), -3);
        due("PROBES are counted", x.told(4, 2), 1);
        bytes(x, 9, 4);
        due("find", x.find(4, 9), -3);
        due("PROBES are counted", x.told(4, 2), 2);
        due("TERMS", x.told(4, 0), 2);
        due("no FAULT", x.fault(), 0);
        KeptTerms y = new KeptTerms();
        y.table(0, false, 4);
        y.make(1, 1, 0);
        due("find", y.find(0, 1), -3);
        due("counted", mean(y), 1);
    }

    private static void noPlaceAheadOfOutsideAheadOfFaults() {
        noPlace("make, kind", (x, p) -> x.make(p, 0, 17));
        noPlace("make, FAULT 5", (x, p) -> x.make(p, 1, -1));
        noPlace("table", (x, p) -> x.table(p, true, 0));
        noPlace("held", (x, p) -> x.held(p, 6));
        noPlace("length", (x, p) -> x.length(p, 4));
        noPlace("set", (x, p) -> x.set(p, 3, 0, 0));
        noPlace("told", (x, p) -> x.told(p, 4));
        refuses("make", -2, x -> x.make(9, 4, -1));
        refuses("length of nothing", -2, x -> x.length(0, 4));
        refuses("length, CAST", -2, x -> x.length(5, 5));
        refuses("set of nothing", -2, x -> x.set(0, 3, 9, 0));
        refuses("set, CAST", -2, x -> x.set(3, 3, 9, 0));
        refuses("told of nothing", -2, x -> x.told(0, 4));
        refuses("told, CAST", -2, x -> x.told(1, -1));
    }

    private static void noPlaceAheadOfFaults() {
        noPlace("lay, CAST", (x, p) -> x.lay(1, 9, p));
        noPlace("lay, nothing", (x, p) -> x.lay(p, 9, 2));
        noPlace("take, CAST", (x, p) -> x.take(p, 1, 9));
        noPlace("take, nothing", (x, p) -> x.take(p, 0, 9));
        noPlace("copy, nothing", (x, p) -> x.copy(0, -1, p, -1, -1));
        noPlace("copy, store", (x, p) -> x.copy(p, -1, 4, -1, -1));
        noPlace("twin, nothing", (x, p) -> x.twin(p, 0));
        noPlace("twin, TABLE", (x, p) -> x.twin(p, 4));
        noPlace("like, nothing", (x, p) -> x.like(0, p));
        noPlace("like, ROWS", (x, p) -> x.like(p, 3));
        noPlace("order, CAST", (x, p) -> x.order(2, p));
        noPlace("order, nothing", (x, p) -> x.order(p, 0));
        noPlace("add, CAST", (x, p) -> x.add(1, p));
        noPlace("add, nothing", (x, p) -> x.add(p, 0));
        noPlace("find, CAST", (x, p) -> x.find(p, 2));
        noPlace("find, nothing", (x, p) -> x.find(0, p));
        noPlace("term, CAST", (x, p) -> x.term(p, 1, 9));
        noPlace("term, nothing", (x, p) -> x.term(p, 0, 9));
        noPlace("merge, CAST", (x, p) -> x.merge(p, 1));
        noPlace("merge, nothing", (x, p) -> x.merge(0, p));
    }

    private static void toldAndNoRoomBehindFaults() {
        fails("find, CAST", 2, x -> x.find(5, 2));
        fails("find, nothing", 1, x -> x.find(5, 0));
        fails("slot, CAST", 2, x -> x.slot(1, 1));
        fails("slot, nothing", 1, x -> x.slot(0, 1));
        fails("take, CAST", 2, x -> x.take(9, 2, 1));
        fails("take, nothing", 1, x -> x.take(9, 0, 1));
        KeptTerms x = new KeptTerms();
        fill(x, 0, false, 64, 100);
        x.make(1, 2, 1);
        x.table(2, false, 4);
        due("full", addOne(x, 0, 101), -4);
        due("PROBES", x.told(0, 2), 1);
        due("add, CAST", x.add(0, 1), -12);
        due("add, nothing", x.add(0, 8), -11);
        due("merge, CAST", x.merge(0, 1), -12);
        due("merge, nothing", x.merge(0, 8), -11);
        due("PROBES", x.told(0, 2), 1);
    }

    private static void nothingStandsForRefusals() {
        noPlaceFar("get", (x, p) -> x.get(p, 1, 0));
        noPlaceFar("cell", (x, p) -> x.cell(p, 0, 0));
        noPlaceFar("hash", (x, p) -> x.hash(p));
        refuses("get, -2", NOTHING, x -> x.get(1, 0, 0));
        refuses("get, -2", NOTHING, x -> x.get(3, 3, 0));
    }

    public static void main(String[] args) {
        says("An object is used for at most 512 calls", TermsBoundaries::the512thCall);
        says("NOTHING = Long.MIN_VALUE", TermsBoundaries::nothing);
        says("PLACES 0 .. 9 hold nothing (0; at first)", TermsBoundaries::firstAndLastPlace);
        says("PLACES 0 .. 9", TermsBoundaries::everyCallAtTheLastPlaces);
        says("several may hold the same one", TermsBoundaries::severalHoldTheSame);
        says("4 TABLES, KEEPERS; 5 KEEPERS", TermsBoundaries::keepersAreTables);
        says("nothing may be CAST to each", TermsBoundaries::nothingMayBeCast);
        says("A call with one answers -10 less it, NOTHING where a long is answered, and changes nothing else",
            TermsBoundaries::answersOfFaults);
        says("LIKE are two BYTES, two SIGNS with the same numbers in row", TermsBoundaries::likeIsTheSameNumbersInRow);
        says("from 0 on, for each of them 31 times what it was and that number", TermsBoundaries::hashFrom0On);
        says("(with sign)", TermsBoundaries::hashWithSign);
        says("in 32 bits", TermsBoundaries::hashIn32Bits);
        says("in 32 bits, at the wrap", TermsBoundaries::hashAtTheWrap);
        says("BYTES are less than others by their numbers without sign", TermsBoundaries::lessWithoutSign);
        says("at the first that differs", TermsBoundaries::lessAtTheFirstThatDiffers);
        says("one that the other begins with is less", TermsBoundaries::whatTheOtherBeginsWithIsLess);
        says("a power of two, 4 at least, that is not below what was asked for", TermsBoundaries::slotsAreAPowerOfTwo);
        says("BYTES, no two LIKE", TermsBoundaries::noTwoLike);
        says("100 at most", TermsBoundaries::atMost100Terms);
        says("A SLOT has the number of a TERM, or none", TermsBoundaries::aSlotHasATermOrNone);
        says("SLOT (HASH xor HASH shifted right by 16, without sign) modulo SLOTS", TermsBoundaries::theFirstSlot);
        says("on, round", TermsBoundaries::lookedForRound);
        says("up to one with a TERM that is LIKE, or with none: PROBES are the SLOTS that were looked at",
            TermsBoundaries::upToOneThatIsLikeOrNone);
        says("if TERMS are more than three quarters of the SLOTS then, the TABLE GROWS",
            TermsBoundaries::growsAboveThreeQuarters);
        says("it has twice as many", TermsBoundaries::growsAgainAndAgain);
        says("What comes is put into that one", TermsBoundaries::whatIsThereDoesNotGrow);
        says("all TERMS are put in anew by their numbers", TermsBoundaries::putInAnewByTheirNumbers);
        says("each from its SLOT on", TermsBoundaries::putInAnewRound);
        says("into the first with none", TermsBoundaries::putInAnewThoughLike);
        says("(no PROBES)", TermsBoundaries::growsWithoutProbes);
        says("BYTES of TERMS may be changed at places", TermsBoundaries::changedAtPlaces);
        says("HASH, LIKE are as they are as they are looked at", TermsBoundaries::changedBeforeItGrows);
        says("A TABLE has a twin of the BYTES that come", TermsBoundaries::aTableHasATwin);
        says("a KEEPER has that one of what KEEPERS keep that is LIKE", TermsBoundaries::aKeeperHasWhatIsKept);
        says("as it is now", TermsBoundaries::likeAsItIsNow);
        says("the eldest first", TermsBoundaries::theEldestFirst);
        says("else a twin, which KEEPERS keep from then on", TermsBoundaries::elseATwinIsKept);
        says("a KEEPER has that one, though it has it already", TermsBoundaries::oneRowTwiceInAKeeper);
        says("-3 of take(): the place holds nothing then, of find(): PROBES are counted",
            TermsBoundaries::refusedTakeAndFind);
        says("of several the first one here, ahead of FAULTS: -1; -2",
            TermsBoundaries::noPlaceAheadOfOutsideAheadOfFaults);
        says("-1 there is no such place, ahead of FAULTS", TermsBoundaries::noPlaceAheadOfFaults);
        says("behind FAULTS 1, 2: -3 as told; -4 no room", TermsBoundaries::toldAndNoRoomBehindFaults);
        says("NOTHING stands for -1, -2 where a long is answered", TermsBoundaries::nothingStandsForRefusals);
        end();
    }
}
