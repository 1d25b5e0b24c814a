/** The boundary cases that promises 16 to 19 name, sentence by sentence. */
public final class ContentBoundaries extends Sentences {

    private static final String[] NAMES = {"Aa", "BB", "AaAa", "AaBB", "BBAa", "BBBB", "id", ""};

    // ---- 16 like

    private static void likeWithNoCells() {
        KeptTerms x = scene();
        x.make(0, 1, 0);
        due("no BYTES", x.like(0, 6), 1);
        x.make(0, 2, 0);
        due("no SIGNS", x.like(0, 7), 1);
        due("itself", x.like(6, 6), 1);
        due("of unlike kinds", x.like(6, 7), 0);
        due("of unlike kinds", x.like(7, 6), 0);
        due("some, none", x.like(1, 6), 0);
        due("none, some", x.like(7, 2), 0);
    }

    private static void likeOfUnlikeKinds() {
        KeptTerms x = new KeptTerms();
        bytes(x, 0, 65, 97);
        signs(x, 1, 65, 97);
        refuses("of unlike kinds", 0, y -> y.like(1, 2));
        due("with the same numbers", x.like(0, 1), 0);
        due("with the same numbers", x.like(1, 0), 0);
    }

    private static void likeUpToTheLast() {
        KeptTerms x = new KeptTerms();
        for (int kind = 1; kind <= 2; kind++) {
            x.make(0, kind, 16);
            x.make(1, kind, 16);
            due("16", x.like(0, 1), 1);
            x.set(1, kind, 15, 1);
            due("but the last", x.like(0, 1), 0);
            x.make(1, kind, 15);
            due("one less", x.like(0, 1), 0);
            due("one more", x.like(1, 0), 0);
        }
        signs(x, 0, 1);
        signs(x, 1, 257);
        due("by all bits of a sign", x.like(0, 1), 0);
    }

    private static void likeFaults() {
        for (int kind = 0; kind <= 5; kind++) {
            int of = kind;
            fails("nothing, " + kind, 1, x -> x.like(0, of));
            fails(kind + ", nothing", 1, x -> x.like(of, 0));
        }
        for (int kind = 1; kind <= 5; kind++) {
            for (int other = 3; other <= 5; other++) {
                int one = kind;
                int another = other;
                fails(kind + ", " + other, 2, x -> x.like(one, another));
                fails(other + ", " + kind, 2, x -> x.like(another, one));
            }
        }
        noPlace("like", (x, p) -> x.like(p, 1));
        noPlace("like, other", (x, p) -> x.like(1, p));
    }

    // ---- 17 hash

    private static void hashOfNone() {
        refuses("no BYTES", 0, x -> x.hash(6));
        refuses("no SIGNS", 0, x -> x.hash(7));
    }

    private static void hashFaults() {
        failsFar("nothing", 1, x -> x.hash(0));
        for (int kind = 3; kind <= 5; kind++) {
            int of = kind;
            failsFar("kind " + kind, 2, x -> x.hash(of));
        }
        failsFar("ROWS with no cells", 2, x -> x.hash(8));
        noPlaceFar("hash", (x, p) -> x.hash(p));
    }

    private static void hashesThatAreEqual() {
        KeptTerms x = new KeptTerms();
        for (int kind = 1; kind <= 2; kind++) {
            for (int k = 0; k < 6; k++) {
                spell(x, 0, kind, NAMES[k]);
                due(NAMES[k], x.hash(0), k < 2 ? 2112 : 2031744);
            }
        }
    }

    // ---- 18 order

    private static void orderIsAddedTo() {
        KeptTerms x = new KeptTerms();
        bytes(x, 0, 1);
        bytes(x, 1, 2);
        due("less", x.order(0, 1), -101);
        due("LIKE", x.order(0, 0), -100);
        due("more", x.order(1, 0), -99);
        x.twin(2, 1);
        due("LIKE, not the same", x.order(1, 2), -100);
    }

    private static void orderByFarNumbers() {
        KeptTerms x = new KeptTerms();
        bytes(x, 0, 0);
        bytes(x, 1, 255);
        due("-1, not how far", x.order(0, 1), -101);
        due("1, not how far", x.order(1, 0), -99);
        x.make(0, 1, 0);
        x.make(1, 1, 16);
        due("-1, not how much shorter", x.order(0, 1), -101);
        due("1, not how much longer", x.order(1, 0), -99);
    }

    private static void orderOfNone() {
        refuses("none, none", -100, x -> x.order(6, 6));
        refuses("none, some", -101, x -> x.order(6, 1));
        refuses("some, none", -99, x -> x.order(1, 6));
    }

    private static void orderFaults() {
        for (int kind = 2; kind <= 5; kind++) {
            int of = kind;
            for (int other = 0; other <= 5; other++) {
                int another = other;
                fails("CAST of " + kind + " and " + other, 2, x -> x.order(of, another));
                fails("CAST of " + other + " and " + kind, 2, x -> x.order(another, of));
            }
        }
        fails("nothing, BYTES", 1, x -> x.order(0, 1));
        fails("BYTES, nothing", 1, x -> x.order(1, 0));
        fails("nothing, nothing", 1, x -> x.order(0, 0));
        noPlace("order", (x, p) -> x.order(p, 1));
        noPlace("order, other", (x, p) -> x.order(1, p));
    }

    // ---- 19 named

    private static void spell(KeptTerms x, int place, int kind, String text) {
        x.make(place, kind, text.length());
        for (int i = 0; i < text.length(); i++) {
            x.set(place, kind, i, text.charAt(i));
        }
    }

    private static void namesOfAll() {
        KeptTerms x = new KeptTerms();
        for (int kind = 1; kind <= 2; kind++) {
            for (int k = 0; k < NAMES.length; k++) {
                spell(x, 0, kind, NAMES[k]);
                due(NAMES[k], x.named(0), k + 1);
            }
        }
    }

    private static void noSigns() {
        refuses("no BYTES", 8, x -> x.named(6));
        refuses("no SIGNS", 8, x -> x.named(7));
    }

    private static void anotherOne() {
        String[] others = {"A", "B", "a", "i", "AA", "aa", "aA", "Bb", "C#", "Ab", "Ba", "AaA", "AaB", "BBA", "BBB", "AaAaA",
            "AaAaAa", "BBBBBB", "AaC#", "C#Aa", "id ", "ID", "Id", "iD", "di", "AaBBAaBBAaBBAaBB", "\0", "\0\0"};
        for (int kind = 1; kind <= 2; kind++) {
            for (String other : others) {
                KeptTerms x = new KeptTerms();
                spell(x, 0, kind, other);
                due("\"" + other + "\"", x.named(0), 0);
            }
        }
    }

    private static void byNumbersWithoutSign() {
        KeptTerms x = new KeptTerms();
        bytes(x, 0, 'A' + 128, 'a');
        due("a byte below 0", x.named(0), 0);
        bytes(x, 0, 'i' - 256, 'd' + 256);
        due("the bytes that were cast", x.named(0), 7);
        signs(x, 0, 'A' + 256, 'a');
        due("a sign above 255", x.named(0), 0);
        signs(x, 0, 'A', 'a' + 32768);
        due("a sign above 32767", x.named(0), 0);
        signs(x, 0, 'A' + 65536, 'a' - 65536);
        due("the signs that were cast", x.named(0), 1);
    }

    private static void namedFaults() {
        fails("nothing", 1, x -> x.named(0));
        for (int kind = 3; kind <= 5; kind++) {
            int of = kind;
            fails("kind " + kind, 2, x -> x.named(of));
        }
        fails("ROWS with no cells", 2, x -> x.named(8));
        noPlace("named", (x, p) -> x.named(p));
    }

    public static void main(String[] args) {
        says("16: LIKE, with no cells", ContentBoundaries::likeWithNoCells);
        says("16: 0 (of unlike kinds)", ContentBoundaries::likeOfUnlikeKinds);
        says("16: LIKE: 1, 0", ContentBoundaries::likeUpToTheLast);
        says("16: FAULTS 1 of either; 2: one is of another kind", ContentBoundaries::likeFaults);
        says("17: HASH, of none", ContentBoundaries::hashOfNone);
        says("17: NOTHING; FAULTS 1; 2: of another kind", ContentBoundaries::hashFaults);
        says("17: HASH, names with equal ones", ContentBoundaries::hashesThatAreEqual);
        says("18: -1 less, 0 LIKE, 1 more: -100 is added to it", ContentBoundaries::orderIsAddedTo);
        says("18: -1 less, 1 more, however far", ContentBoundaries::orderByFarNumbers);
        says("18: BYTES against others, with no cells", ContentBoundaries::orderOfNone);
        says("18: FAULTS 2 (of the first, of the other), 1", ContentBoundaries::orderFaults);
        says("19: 1 Aa, 2 BB, 3 AaAa, 4 AaBB, 5 BBAa, 6 BBBB, 7 id", ContentBoundaries::namesOfAll);
        says("19: 8 none at all (no signs)", ContentBoundaries::noSigns);
        says("19: 0 another one", ContentBoundaries::anotherOne);
        says("19: by their numbers without sign", ContentBoundaries::byNumbersWithoutSign);
        says("19: FAULTS 1; 2: of another kind", ContentBoundaries::namedFaults);
        end();
    }
}
