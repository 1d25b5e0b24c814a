import java.util.Arrays;

/** Ten places for rows and for tables that keep rows of bytes once; see README.md. */
public final class KeptTerms {
    /** What a call that answers a long says in place of a refusal or a fault. */
    public static final long NOTHING = Long.MIN_VALUE;

    private static final int PLACES = 10;
    private static final int MOST_CELLS = 16;
    private static final int LEAST_SLOTS = 4;
    private static final int MOST_ASKED_SLOTS = 64;
    private static final int MOST_TERMS = 100;
    private static final int NAMES = 8;

    // In 512 calls at most 512 contents come up and at most 512 times a kept row loses its content:
    // no run that the document speaks of gets KEEPERS to keep more rows than this.
    private static final int MOST_KEPT = 1024;
    private static final int FIRST_KEPT = 16;

    // Kinds of what a place holds; they are the TYPES, too.
    private static final int EMPTY = 0;
    private static final int BYTES = 1;
    private static final int SIGNS = 2;
    private static final int ROWS = 3;
    private static final int TABLE = 4;
    private static final int KEEPER = 5;

    private static final int NO_PLACE = -1;
    private static final int OUT_OF_BOUNDS = -2;
    private static final int NONE = -3;
    private static final int NO_ROOM = -4;

    private static final int FAULT_NOTHING = 1;
    private static final int FAULT_CAST = 2;
    private static final int FAULT_INDEX = 3;
    private static final int FAULT_STORE = 4;
    private static final int FAULT_LENGTH = 5;

    // Keeps the answers of order() apart from those of REFUSALS and FAULTS.
    private static final int ORDER_BASE = -100;

    private final Thing[] places;
    private final Pool pool;
    private final int[] ranks;
    private int latestFault;
    private long allProbes;
    private long looks;

    /** All places hold nothing. */
    public KeptTerms() {
        places = new Thing[PLACES];
        pool = new Pool();
        ranks = new int[MOST_TERMS];
    }

    /** The FAULT of the latest call that had one; 0: none so far. */
    public int fault() {
        return latestFault;
    }

    // ---- places

    /** A place gets n cells of a kind 1 to 3. */
    public int make(int place, int kind, int n) {
        if (!isPlace(place)) {
            return NO_PLACE;
        }
        if (kind < BYTES || kind > ROWS || n > MOST_CELLS) {
            return OUT_OF_BOUNDS;
        }
        if (n < 0) {
            return failed(FAULT_LENGTH);
        }
        places[place] = newRow(kind, n);
        return 1;
    }

    /** A place gets a TABLE or a KEEPER: its SLOTS. */
    public int table(int place, boolean keeps, int slots) {
        if (!isPlace(place)) {
            return NO_PLACE;
        }
        if (slots < 1 || slots > MOST_ASKED_SLOTS) {
            return OUT_OF_BOUNDS;
        }
        int count = slotsFor(slots);
        places[place] = keeps ? new Keeper(count, pool) : new Table(count);
        return count;
    }

    /** A place gets what another one holds (-1: nothing): its kind. */
    public int move(int place, int from) {
        if (!isPlace(place) || (from != -1 && !isPlace(from))) {
            return NO_PLACE;
        }
        places[place] = from == -1 ? null : places[from];
        return kindOf(places[place]);
    }

    /** 0: the kind that a place holds; 1 to 5: whether it is of that TYPE. */
    public int held(int place, int what) {
        if (!isPlace(place)) {
            return NO_PLACE;
        }
        if (what < EMPTY || what > KEEPER) {
            return OUT_OF_BOUNDS;
        }
        if (what == EMPTY) {
            return kindOf(places[place]);
        }
        return isOfType(places[place], what) ? 1 : 0;
    }

    /** Whether two places hold the very same one, or both nothing. */
    public int same(int place, int other) {
        if (!isPlace(place) || !isPlace(other)) {
            return NO_PLACE;
        }
        return places[place] == places[other] ? 1 : 0;
    }

    /** How many cells BYTES, SIGNS, ROWS have. */
    public int length(int place, int type) {
        if (!isPlace(place)) {
            return NO_PLACE;
        }
        if (type < BYTES || type > ROWS) {
            return OUT_OF_BOUNDS;
        }
        if (!mayBeCast(places[place], type)) {
            return failed(FAULT_CAST);
        }
        Row row = asRow(places[place]);
        return row == null ? failed(FAULT_NOTHING) : row.cellCount();
    }

    /** Cell i of BYTES, SIGNS. */
    public long get(int place, int type, int i) {
        if (!isPlace(place) || !isNumbersType(type)) {
            return NOTHING;
        }
        int found = cellFault(places[place], type, i);
        Numbers row = asNumbers(places[place]);
        if (found != 0 || row == null) {
            return failedLong(found);
        }
        return row.number(i);
    }

    /** Cell i of BYTES, SIGNS becomes v, cast. */
    public int set(int place, int type, int i, int v) {
        if (!isPlace(place)) {
            return NO_PLACE;
        }
        if (!isNumbersType(type)) {
            return OUT_OF_BOUNDS;
        }
        int found = cellFault(places[place], type, i);
        Numbers row = asNumbers(places[place]);
        if (found != 0 || row == null) {
            return failed(found);
        }
        row.putNumber(i, v);
        return 1;
    }

    /** Cell i of ROWS becomes the BYTES of another place, or nothing. */
    public int lay(int place, int i, int other) {
        if (!isPlace(place) || !isPlace(other)) {
            return NO_PLACE;
        }
        if (!mayBeCast(places[place], ROWS) || !mayBeCast(places[other], BYTES)) {
            return failed(FAULT_CAST);
        }
        int found = cellFault(places[place], ROWS, i);
        Rows rows = asRows(places[place]);
        if (found != 0 || rows == null) {
            return failed(found);
        }
        rows.cells[i] = asBytes(places[other]);
        return 1;
    }

    /** A place gets what is in cell i of ROWS of another one: how many cells it has. */
    public int take(int place, int other, int i) {
        if (!isPlace(place) || !isPlace(other)) {
            return NO_PLACE;
        }
        int found = cellFault(places[other], ROWS, i);
        Rows rows = asRows(places[other]);
        if (found != 0 || rows == null) {
            return failed(found);
        }
        Bytes taken = rows.cells[i];
        places[place] = taken;
        return taken == null ? NONE : taken.cellCount();
    }

    /** Byte j of what is in cell i of ROWS. */
    public long cell(int place, int i, int j) {
        if (!isPlace(place)) {
            return NOTHING;
        }
        int found = cellFault(places[place], ROWS, i);
        Rows rows = asRows(places[place]);
        if (found != 0 || rows == null) {
            return failedLong(found);
        }
        Bytes row = rows.cells[i];
        if (row == null) {
            return failedLong(FAULT_NOTHING);
        }
        return row.hasCell(j) ? row.number(j) : failedLong(FAULT_INDEX);
    }

    /** n cells of a place from at on go to those of another one from to on. */
    public int copy(int place, int at, int other, int to, int n) {
        if (!isPlace(place) || !isPlace(other)) {
            return NO_PLACE;
        }
        if (places[place] == null || places[other] == null) {
            return failed(FAULT_NOTHING);
        }
        Row source = asRow(places[place]);
        Row target = asRow(places[other]);
        if (source == null || target == null || source.kind() != target.kind()) {
            return failed(FAULT_STORE);
        }
        if (!source.hasCells(at, n) || !target.hasCells(to, n)) {
            return failed(FAULT_INDEX);
        }
        source.passTo(target, at, to, n);
        return 1;
    }

    /** A place gets a twin of another one's BYTES, SIGNS, ROWS: how many cells. */
    public int twin(int place, int other) {
        if (!isPlace(place) || !isPlace(other)) {
            return NO_PLACE;
        }
        if (places[other] == null) {
            return failed(FAULT_NOTHING);
        }
        Row row = asRow(places[other]);
        if (row == null) {
            return failed(FAULT_CAST);
        }
        places[place] = row.newTwin();
        return row.cellCount();
    }

    // ---- content

    /** Whether BYTES, SIGNS of two places are LIKE. */
    public int like(int place, int other) {
        if (!isPlace(place) || !isPlace(other)) {
            return NO_PLACE;
        }
        if (places[place] == null || places[other] == null) {
            return failed(FAULT_NOTHING);
        }
        Numbers one = asNumbers(places[place]);
        Numbers another = asNumbers(places[other]);
        if (one == null || another == null) {
            return failed(FAULT_CAST);
        }
        return one.isLike(another) ? 1 : 0;
    }

    /** HASH of BYTES, SIGNS. */
    public long hash(int place) {
        if (!isPlace(place)) {
            return NOTHING;
        }
        if (places[place] == null) {
            return failedLong(FAULT_NOTHING);
        }
        Numbers row = asNumbers(places[place]);
        return row == null ? failedLong(FAULT_CAST) : row.contentHash();
    }

    /** BYTES against others: -101 less, -100 LIKE, -99 more. */
    public int order(int place, int other) {
        if (!isPlace(place) || !isPlace(other)) {
            return NO_PLACE;
        }
        if (!mayBeCast(places[place], BYTES) || !mayBeCast(places[other], BYTES)) {
            return failed(FAULT_CAST);
        }
        Bytes one = asBytes(places[place]);
        Bytes another = asBytes(places[other]);
        if (one == null || another == null) {
            return failed(FAULT_NOTHING);
        }
        return ORDER_BASE + one.against(another);
    }

    /** Which NAME the signs of BYTES, SIGNS are. */
    public int named(int place) {
        if (!isPlace(place)) {
            return NO_PLACE;
        }
        if (places[place] == null) {
            return failed(FAULT_NOTHING);
        }
        Numbers row = asNumbers(places[place]);
        return row == null ? failed(FAULT_CAST) : nameOf(row);
    }

    // ---- tables

    /** BYTES come into a TABLE: the number of the TERM. */
    public int add(int table, int place) {
        if (!isPlace(table) || !isPlace(place)) {
            return NO_PLACE;
        }
        int found = lookFault(places[table], places[place]);
        Table into = asTable(places[table]);
        Bytes row = asBytes(places[place]);
        if (found != 0 || into == null || row == null) {
            return failed(found);
        }
        return counted(into, into.admit(row));
    }

    /** The number of the TERM that is LIKE BYTES. */
    public int find(int table, int place) {
        if (!isPlace(table) || !isPlace(place)) {
            return NO_PLACE;
        }
        int found = lookFault(places[table], places[place]);
        Table in = asTable(places[table]);
        Bytes row = asBytes(places[place]);
        if (found != 0 || in == null || row == null) {
            return failed(found);
        }
        return counted(in, in.numberOf(row));
    }

    /** A place gets the very BYTES of TERM k of a TABLE: how many cells. */
    public int term(int place, int table, int k) {
        if (!isPlace(place) || !isPlace(table)) {
            return NO_PLACE;
        }
        int found = tableFault(places[table]);
        Table of = asTable(places[table]);
        if (found != 0 || of == null) {
            return failed(found);
        }
        if (k < 0 || k >= of.termCount) {
            return failed(FAULT_INDEX);
        }
        Bytes row = of.terms[k];
        places[place] = row;
        return row.cellCount();
    }

    /** Of a TABLE: 0 TERMS, 1 SLOTS, 2 PROBES of its latest look, 3 how often it GREW. */
    public int told(int table, int what) {
        if (!isPlace(table)) {
            return NO_PLACE;
        }
        if (what < 0 || what > 3) {
            return OUT_OF_BOUNDS;
        }
        int found = tableFault(places[table]);
        Table of = asTable(places[table]);
        if (found != 0 || of == null) {
            return failed(found);
        }
        return of.figure(what);
    }

    /** The TERM in SLOT i; -3: none. */
    public int slot(int table, int i) {
        if (!isPlace(table)) {
            return NO_PLACE;
        }
        int found = tableFault(places[table]);
        Table of = asTable(places[table]);
        if (found != 0 || of == null) {
            return failed(found);
        }
        if (i < 0 || i >= of.slots.length) {
            return failed(FAULT_INDEX);
        }
        return of.slots[i];
    }

    /** The TERM at place i by order of BYTES as they are now. */
    public int ranked(int table, int i) {
        if (!isPlace(table)) {
            return NO_PLACE;
        }
        int found = tableFault(places[table]);
        Table of = asTable(places[table]);
        if (found != 0 || of == null) {
            return failed(found);
        }
        if (i < 0 || i >= of.termCount) {
            return failed(FAULT_INDEX);
        }
        of.rankInto(ranks);
        return ranks[i];
    }

    /** All TERMS of another TABLE come, by their numbers: how many were new. */
    public int merge(int table, int other) {
        if (!isPlace(table) || !isPlace(other)) {
            return NO_PLACE;
        }
        if (!mayBeCast(places[table], TABLE) || !mayBeCast(places[other], TABLE)) {
            return failed(FAULT_CAST);
        }
        Table into = asTable(places[table]);
        Table from = asTable(places[other]);
        if (into == null || from == null) {
            return failed(FAULT_NOTHING);
        }
        int before = into.termCount;
        // A TABLE that is merged into itself may get TERMS on the way: only those from before come.
        int coming = from.termCount;
        for (int k = 0; k < coming; k++) {
            if (counted(into, into.admit(from.terms[k])) == NO_ROOM) {
                return NO_ROOM;
            }
        }
        return into.termCount - before;
    }

    /** How many rows KEEPERS keep in all. */
    public int kept() {
        return pool.count;
    }

    /** PROBES of all looks by how many of these there were, cut. */
    public int mean() throws ArithmeticException {
        if (looks == 0) {
            throw new ArithmeticException("no add() or find() was done");
        }
        return (int) (allProbes / looks);
    }

    // ---- what the calls share

    private static boolean isPlace(int place) {
        return place >= 0 && place < PLACES;
    }

    private static boolean isNumbersType(int type) {
        return type == BYTES || type == SIGNS;
    }

    private static int kindOf(Thing thing) {
        return thing == null ? EMPTY : thing.kind();
    }

    private static boolean isOfType(Thing thing, int type) {
        int kind = kindOf(thing);
        return kind == type || (kind == KEEPER && type == TABLE);
    }

    private static boolean mayBeCast(Thing thing, int type) {
        return thing == null || isOfType(thing, type);
    }

    private static Row asRow(Thing thing) {
        return thing instanceof Row ? (Row) thing : null;
    }

    private static Numbers asNumbers(Thing thing) {
        return thing instanceof Numbers ? (Numbers) thing : null;
    }

    private static Bytes asBytes(Thing thing) {
        return thing instanceof Bytes ? (Bytes) thing : null;
    }

    private static Rows asRows(Thing thing) {
        return thing instanceof Rows ? (Rows) thing : null;
    }

    private static Table asTable(Thing thing) {
        return thing instanceof Table ? (Table) thing : null;
    }

    private int failed(int fault) {
        latestFault = fault;
        return -10 - fault;
    }

    private long failedLong(int fault) {
        latestFault = fault;
        return NOTHING;
    }

    private static int cellFault(Thing thing, int type, int i) {
        if (!mayBeCast(thing, type)) {
            return FAULT_CAST;
        }
        Row row = asRow(thing);
        if (row == null) {
            return FAULT_NOTHING;
        }
        return row.hasCell(i) ? 0 : FAULT_INDEX;
    }

    private static int tableFault(Thing thing) {
        if (!mayBeCast(thing, TABLE)) {
            return FAULT_CAST;
        }
        return thing == null ? FAULT_NOTHING : 0;
    }

    private static int lookFault(Thing table, Thing row) {
        if (!mayBeCast(table, TABLE) || !mayBeCast(row, BYTES)) {
            return FAULT_CAST;
        }
        return table == null || row == null ? FAULT_NOTHING : 0;
    }

    private static Row newRow(int kind, int n) {
        if (kind == BYTES) {
            return new Bytes(new byte[n]);
        }
        if (kind == SIGNS) {
            return new Signs(new char[n]);
        }
        return new Rows(new Bytes[n]);
    }

    private static int slotsFor(int asked) {
        int count = LEAST_SLOTS;
        while (count < asked && count < MOST_ASKED_SLOTS) {
            count *= 2;
        }
        return count;
    }

    private static int nameOf(Numbers row) {
        for (int name = 1; name <= NAMES; name++) {
            if (row.spells(nameText(name))) {
                return name;
            }
        }
        return 0;
    }

    private static String nameText(int name) {
        switch (name) {
            case 1:
                return "Aa";
            case 2:
                return "BB";
            case 3:
                return "AaAa";
            case 4:
                return "AaBB";
            case 5:
                return "BBAa";
            case 6:
                return "BBBB";
            case 7:
                return "id";
            default:
                return "";
        }
    }

    private int counted(Table table, int answer) {
        allProbes += table.latestProbes;
        looks++;
        return answer;
    }

    /** What a place may hold. */
    private abstract static class Thing {
        abstract int kind();
    }

    /** BYTES, SIGNS, ROWS. */
    private abstract static class Row extends Thing {
        abstract int cellCount();

        abstract Row newTwin();

        /** The caller has looked at the kinds and at both ends. */
        abstract void passTo(Row target, int at, int to, int n);

        boolean hasCell(int i) {
            return i >= 0 && i < cellCount();
        }

        boolean hasCells(int from, int n) {
            return from >= 0 && n >= 0 && n <= cellCount() && from <= cellCount() - n;
        }
    }

    /** BYTES, SIGNS. */
    private abstract static class Numbers extends Row {
        abstract int number(int i);

        abstract int numberWithoutSign(int i);

        abstract void putNumber(int i, int v);

        abstract boolean isLike(Numbers other);

        int contentHash() {
            int hash = 0;
            int n = cellCount();
            for (int i = 0; i < n; i++) {
                hash = 31 * hash + number(i);
            }
            return hash;
        }

        boolean spells(String text) {
            int n = cellCount();
            if (n != text.length()) {
                return false;
            }
            for (int i = 0; i < n; i++) {
                if (numberWithoutSign(i) != text.charAt(i)) {
                    return false;
                }
            }
            return true;
        }
    }

    private static final class Bytes extends Numbers {
        private final byte[] cells;

        Bytes(byte[] cells) {
            this.cells = cells;
        }

        int kind() {
            return BYTES;
        }

        int cellCount() {
            return cells.length;
        }

        int number(int i) {
            return cells[i];
        }

        int numberWithoutSign(int i) {
            return cells[i] & 0xFF;
        }

        void putNumber(int i, int v) {
            cells[i] = (byte) v;
        }

        boolean isLike(Numbers other) {
            return other instanceof Bytes && hasAll(((Bytes) other).cells);
        }

        // By the cells themselves: tables and KEEPERS do little else.
        private boolean hasAll(byte[] others) {
            if (cells.length != others.length) {
                return false;
            }
            for (int i = 0; i < cells.length; i++) {
                if (cells[i] != others[i]) {
                    return false;
                }
            }
            return true;
        }

        Bytes newTwin() {
            return new Bytes(cells.clone());
        }

        void passTo(Row target, int at, int to, int n) {
            if (target instanceof Bytes) {
                System.arraycopy(cells, at, ((Bytes) target).cells, to, n);
            }
        }

        /** -1 less, 0 LIKE, 1 more. */
        int against(Bytes other) {
            int shared = Math.min(cells.length, other.cells.length);
            for (int i = 0; i < shared; i++) {
                int difference = (cells[i] & 0xFF) - (other.cells[i] & 0xFF);
                if (difference != 0) {
                    return difference < 0 ? -1 : 1;
                }
            }
            return Integer.compare(cells.length, other.cells.length);
        }
    }

    private static final class Signs extends Numbers {
        private final char[] cells;

        Signs(char[] cells) {
            this.cells = cells;
        }

        int kind() {
            return SIGNS;
        }

        int cellCount() {
            return cells.length;
        }

        int number(int i) {
            return cells[i];
        }

        int numberWithoutSign(int i) {
            return cells[i];
        }

        void putNumber(int i, int v) {
            cells[i] = (char) v;
        }

        boolean isLike(Numbers other) {
            return other instanceof Signs && hasAll(((Signs) other).cells);
        }

        private boolean hasAll(char[] others) {
            if (cells.length != others.length) {
                return false;
            }
            for (int i = 0; i < cells.length; i++) {
                if (cells[i] != others[i]) {
                    return false;
                }
            }
            return true;
        }

        Signs newTwin() {
            return new Signs(cells.clone());
        }

        void passTo(Row target, int at, int to, int n) {
            if (target instanceof Signs) {
                System.arraycopy(cells, at, ((Signs) target).cells, to, n);
            }
        }
    }

    private static final class Rows extends Row {
        private final Bytes[] cells;

        Rows(Bytes[] cells) {
            this.cells = cells;
        }

        int kind() {
            return ROWS;
        }

        int cellCount() {
            return cells.length;
        }

        Rows newTwin() {
            Rows twin = new Rows(new Bytes[cells.length]);
            passTo(twin, 0, 0, cells.length);
            return twin;
        }

        void passTo(Row target, int at, int to, int n) {
            if (target instanceof Rows) {
                Rows into = (Rows) target;
                // By way of others: both may be the same row, and its cells may overlap.
                Bytes[] between = new Bytes[n];
                for (int k = 0; k < n; k++) {
                    between[k] = cells[at + k];
                }
                for (int k = 0; k < n; k++) {
                    into.cells[to + k] = between[k];
                }
            }
        }
    }

    private static class Table extends Thing {
        private final Bytes[] terms;
        // The number of a TERM, or NONE; the length is a power of two.
        private int[] slots;
        private int termCount;
        private int latestProbes;
        private int growths;

        Table(int slotCount) {
            terms = new Bytes[MOST_TERMS];
            slots = emptySlots(slotCount);
        }

        int kind() {
            return TABLE;
        }

        /** The row that the TABLE has for BYTES that come; null: there is no room for it. */
        Bytes rowFor(Bytes coming) {
            return coming.newTwin();
        }

        int figure(int what) {
            switch (what) {
                case 0:
                    return termCount;
                case 1:
                    return slots.length;
                case 2:
                    return latestProbes;
                default:
                    return growths;
            }
        }

        int numberOf(Bytes row) {
            return slots[lookFor(row)];
        }

        /** The number of the TERM, new or not, or NO_ROOM. */
        int admit(Bytes coming) {
            int at = lookFor(coming);
            if (slots[at] != NONE) {
                return slots[at];
            }
            if (termCount >= MOST_TERMS) {
                return NO_ROOM;
            }
            Bytes row = rowFor(coming);
            if (row == null) {
                return NO_ROOM;
            }
            int number = termCount;
            terms[number] = row;
            slots[at] = number;
            termCount++;
            if (4 * termCount > 3 * slots.length) {
                grow();
            }
            return number;
        }

        /** Sorts the numbers of the TERMS; a TERM goes behind all that are less or like it. */
        void rankInto(int[] order) {
            for (int k = 0; k < termCount; k++) {
                int low = 0;
                int high = k;
                while (low < high) {
                    int middle = (low + high) / 2;
                    if (terms[order[middle]].against(terms[k]) > 0) {
                        high = middle;
                    } else {
                        low = middle + 1;
                    }
                }
                System.arraycopy(order, low, order, low + 1, k - low);
                order[low] = k;
            }
        }

        private static int[] emptySlots(int count) {
            int[] empty = new int[count];
            Arrays.fill(empty, NONE);
            return empty;
        }

        private int firstSlot(Bytes row) {
            int hash = row.contentHash();
            return (hash ^ (hash >>> 16)) & (slots.length - 1);
        }

        private int nextSlot(int at) {
            return (at + 1) & (slots.length - 1);
        }

        /** The SLOT with a TERM that is LIKE, or the one with none that ends the look. */
        private int lookFor(Bytes row) {
            int at = firstSlot(row);
            // A quarter of the SLOTS has no TERM, so that a look never goes all the way round.
            for (latestProbes = 1; latestProbes < slots.length; latestProbes++) {
                if (slots[at] == NONE || terms[slots[at]].isLike(row)) {
                    return at;
                }
                at = nextSlot(at);
            }
            return at;
        }

        private void grow() {
            slots = emptySlots(2 * slots.length);
            growths++;
            for (int k = 0; k < termCount; k++) {
                slots[freeSlotFor(terms[k])] = k;
            }
        }

        private int freeSlotFor(Bytes row) {
            int at = firstSlot(row);
            for (int seen = 1; seen < slots.length && slots[at] != NONE; seen++) {
                at = nextSlot(at);
            }
            return at;
        }
    }

    private static final class Keeper extends Table {
        private final Pool pool;

        Keeper(int slotCount, Pool pool) {
            super(slotCount);
            this.pool = pool;
        }

        int kind() {
            return KEEPER;
        }

        Bytes rowFor(Bytes coming) {
            Bytes elder = pool.eldestLike(coming);
            return elder == null ? pool.keep(coming.newTwin()) : elder;
        }
    }

    /** The rows that all KEEPERS of an object keep, the eldest first. */
    private static final class Pool {
        private Bytes[] rows;
        private int count;

        Pool() {
            rows = new Bytes[FIRST_KEPT];
        }

        /** null: there is none. */
        Bytes eldestLike(Bytes coming) {
            for (int k = 0; k < count; k++) {
                if (rows[k].isLike(coming)) {
                    return rows[k];
                }
            }
            return null;
        }

        /** The row itself; null: there is no room for it. */
        Bytes keep(Bytes row) {
            if (count >= MOST_KEPT) {
                return null;
            }
            if (count >= rows.length) {
                widen();
            }
            rows[count] = row;
            count++;
            return row;
        }

        private void widen() {
            Bytes[] wider = new Bytes[2 * rows.length];
            for (int k = 0; k < count; k++) {
                wider[k] = rows[k];
            }
            rows = wider;
        }
    }
}
