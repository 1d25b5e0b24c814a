/** What the tests of the document's single sentences share: they extend this class. */
abstract class Sentences {
    static final long NOTHING = Long.MIN_VALUE;
    static final int LEAST = Integer.MIN_VALUE;
    static final int MOST = Integer.MAX_VALUE;
    static final int[] NO_PLACES = {-1, 10, LEAST, MOST};

    /** What mean() answers where it throws. */
    static final long THROWN = Long.MAX_VALUE;

    private static String sentence = "the scene";
    private static int tested = 0;
    private static int wrong = 0;
    private static final String UNTOUCHED = seen(scene());

    interface Call {
        long on(KeptTerms x);
    }

    interface PlaceCall {
        long on(KeptTerms x, int place);
    }

    /** Runs the test of a sentence; what the machine throws in it is a wrong answer, too. */
    static void says(String words, Runnable test) {
        sentence = words;
        tested++;
        try {
            test.run();
        } catch (RuntimeException e) {
            wrong("threw " + e);
        }
    }

    static void end() {
        System.out.println(tested + " sentences tested, " + wrong + " answers not as due");
        if (wrong != 0 || tested == 0) {
            System.exit(1);
        }
    }

    static void due(String call, long got, long want) {
        if (got != want) {
            wrong(call + " answered " + got + ", due is " + want);
        }
    }

    private static void wrong(String what) {
        wrong++;
        System.out.println("\"" + sentence + "\": " + what);
    }

    // ---- rows and tables

    static void bytes(KeptTerms x, int place, int... numbers) {
        row(x, place, 1, numbers);
    }

    static void signs(KeptTerms x, int place, int... numbers) {
        row(x, place, 2, numbers);
    }

    private static void row(KeptTerms x, int place, int kind, int[] numbers) {
        due("make", x.make(place, kind, numbers.length), 1);
        for (int i = 0; i < numbers.length; i++) {
            due("set", x.set(place, kind, i, numbers[i]), 1);
        }
    }

    /** The BYTES or SIGNS at a place are these. */
    static void dueCells(String what, KeptTerms x, int place, int kind, int... numbers) {
        due(what + ": length", x.length(place, kind), numbers.length);
        for (int i = 0; i < numbers.length; i++) {
            due(what + ": cell " + i, x.get(place, kind, i), numbers[i]);
        }
    }

    /** The SLOTS of a TABLE are these. */
    static void dueSlots(String what, KeptTerms x, int table, int... numbers) {
        due(what + ": SLOTS", x.told(table, 1), numbers.length);
        for (int i = 0; i < numbers.length; i++) {
            due(what + ": SLOT " + i, x.slot(table, i), numbers[i]);
        }
    }

    /** BYTES of one cell each come into a TABLE: each number 0 to 127 is the SLOT, modulo SLOTS, it is looked for from. */
    static void addAll(KeptTerms x, int table, int... numbers) {
        for (int number : numbers) {
            due("new", addOne(x, table, number), x.told(table, 0) - 1);
        }
    }

    /** New BYTES at place 9, of one cell, come into a TABLE. */
    static int addOne(KeptTerms x, int table, int number) {
        bytes(x, 9, number);
        return x.add(table, 9);
    }

    /** A TABLE or KEEPER with TERMS 0 to count - 1, one cell each, in 2 calls for each; place 9 is used. */
    static void fill(KeptTerms x, int table, boolean keeps, int slots, int count) {
        x.table(table, keeps, slots);
        x.make(9, 1, 1);
        for (int k = 0; k < count; k++) {
            x.set(9, 1, 0, k);
            due("fill", x.add(table, 9), k);
        }
    }

    static long mean(KeptTerms x) {
        try {
            return x.mean();
        } catch (ArithmeticException e) {
            return THROWN;
        }
    }

    // ---- calls that are refused

    /**
     * Nothing at 0; BYTES at 1, the same at 9; SIGNS at 2; ROWS at 3 (those BYTES, nothing); a TABLE at 4, a KEEPER at
     * 5; at 6, 7, 8 BYTES, SIGNS, ROWS with no cells. No call of it has a FAULT.
     */
    static KeptTerms scene() {
        KeptTerms x = new KeptTerms();
        bytes(x, 1, 65, -97);
        x.move(9, 1);
        signs(x, 2, 65, 40000);
        x.make(3, 3, 2);
        x.lay(3, 0, 1);
        x.table(4, false, 4);
        x.table(5, true, 4);
        x.make(6, 1, 0);
        x.make(7, 2, 0);
        x.make(8, 3, 0);
        x.add(4, 1);
        x.add(4, 6);
        x.add(5, 1);
        return x;
    }

    /** All that can be seen of an object but its fault(); place 0 is used behind it. */
    static String seen(KeptTerms x) {
        StringBuilder all = new StringBuilder("kept " + x.kept() + " mean " + mean(x));
        for (int place = 0; place < 10; place++) {
            all.append('\n').append(place).append(':');
            for (int other = 0; other < place; other++) {
                all.append(x.same(place, other));
            }
            seeCells(x, place, all);
            seeTable(x, place, all);
        }
        for (int place = 1; place < 10; place++) {
            seeInside(x, place, all);
        }
        return all.toString();
    }

    private static void seeCells(KeptTerms x, int place, StringBuilder all) {
        int kind = x.held(place, 0);
        all.append(" kind ").append(kind);
        if (kind < 1 || kind > 3) {
            return;
        }
        int length = x.length(place, kind);
        all.append(" length ").append(length);
        for (int i = 0; i < length && kind < 3; i++) {
            all.append(' ').append(x.get(place, kind, i));
        }
    }

    private static void seeTable(KeptTerms x, int place, StringBuilder all) {
        if (x.held(place, 4) != 1) {
            return;
        }
        for (int what = 0; what < 4; what++) {
            all.append(" told ").append(x.told(place, what));
        }
        for (int i = 0; i < x.told(place, 1); i++) {
            all.append(" slot ").append(x.slot(place, i));
        }
        for (int i = 0; i < x.told(place, 0); i++) {
            all.append(" ranked ").append(x.ranked(place, i));
        }
    }

    private static void seeInside(KeptTerms x, int place, StringBuilder all) {
        int kind = x.held(place, 0);
        int count = kind == 3 ? x.length(place, 3) : kind > 3 ? x.told(place, 0) : 0;
        for (int k = 0; k < count; k++) {
            all.append('\n').append(place).append('.').append(k).append(": ");
            all.append(kind == 3 ? x.take(0, place, k) : x.term(0, place, k));
            seeCells(x, 0, all);
            all.append(" same ").append(x.same(0, 1));
        }
    }

    /** In the scene a call has a FAULT, which it answers, and changes nothing else. */
    static void fails(String name, int fault, Call call) {
        unchanged(name, call, -10 - fault, fault);
    }

    /** Likewise, of a call that answers a long. */
    static void failsFar(String name, int fault, Call call) {
        unchanged(name, call, NOTHING, fault);
    }

    /** In the scene a call is refused with an answer, has no FAULT and changes nothing. */
    static void refuses(String name, long answer, Call call) {
        unchanged(name, call, answer, 0);
    }

    /** A call refuses what is no place. */
    static void noPlace(String name, PlaceCall call) {
        for (int place : NO_PLACES) {
            refuses(name + " at " + place, -1, x -> call.on(x, place));
        }
    }

    /** Likewise, of a call that answers a long. */
    static void noPlaceFar(String name, PlaceCall call) {
        for (int place : NO_PLACES) {
            refuses(name + " at " + place, NOTHING, x -> call.on(x, place));
        }
    }

    private static void unchanged(String name, Call call, long answer, int fault) {
        KeptTerms x = scene();
        due(name, call.on(x), answer);
        due(name + ", fault()", x.fault(), fault);
        String now = seen(x);
        if (!now.equals(UNTOUCHED)) {
            wrong(name + " changed what was\n" + UNTOUCHED + "\ninto\n" + now);
        }
    }
}
