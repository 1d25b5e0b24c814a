import java.lang.reflect.Constructor;
import java.lang.reflect.Field;
import java.lang.reflect.Method;
import java.lang.reflect.Modifier;
import java.util.Set;
import java.util.TreeSet;

/** The face of the class is the document's, no more and no less. */
public final class FaceTest {
    private static final Set<String> FACE = Set.of(
        "public static final long KeptTerms.NOTHING",
        "public KeptTerms()",
        "public int KeptTerms.fault()",
        "public int KeptTerms.make(int,int,int)",
        "public int KeptTerms.table(int,boolean,int)",
        "public int KeptTerms.move(int,int)",
        "public int KeptTerms.held(int,int)",
        "public int KeptTerms.same(int,int)",
        "public int KeptTerms.length(int,int)",
        "public long KeptTerms.get(int,int,int)",
        "public int KeptTerms.set(int,int,int,int)",
        "public int KeptTerms.lay(int,int,int)",
        "public int KeptTerms.take(int,int,int)",
        "public long KeptTerms.cell(int,int,int)",
        "public int KeptTerms.copy(int,int,int,int,int)",
        "public int KeptTerms.twin(int,int)",
        "public int KeptTerms.like(int,int)",
        "public long KeptTerms.hash(int)",
        "public int KeptTerms.order(int,int)",
        "public int KeptTerms.named(int)",
        "public int KeptTerms.add(int,int)",
        "public int KeptTerms.find(int,int)",
        "public int KeptTerms.term(int,int,int)",
        "public int KeptTerms.told(int,int)",
        "public int KeptTerms.slot(int,int)",
        "public int KeptTerms.ranked(int,int)",
        "public int KeptTerms.merge(int,int)",
        "public int KeptTerms.kept()",
        "public int KeptTerms.mean() throws java.lang.ArithmeticException");

    public static void main(String[] args) {
        Set<String> seen = new TreeSet<>();
        Set<String> open = new TreeSet<>();
        Set<String> hidden = new TreeSet<>();
        for (Field field : KeptTerms.class.getDeclaredFields()) {
            sort(field.getModifiers(), field.toString(), seen);
        }
        for (Constructor<?> constructor : KeptTerms.class.getDeclaredConstructors()) {
            sort(constructor.getModifiers(), constructor.toString(), seen);
        }
        for (Method method : KeptTerms.class.getDeclaredMethods()) {
            sort(method.getModifiers(), method.toString(), seen);
            (Modifier.isPrivate(method.getModifiers()) ? hidden : open).add(method.getName());
        }
        for (Class<?> inner : KeptTerms.class.getDeclaredClasses()) {
            for (Method method : inner.getDeclaredMethods()) {
                hidden.add(method.getName());
            }
        }
        hidden.retainAll(open);
        boolean fine = seen.equals(FACE) && hidden.isEmpty() && Modifier.isFinal(KeptTerms.class.getModifiers());
        System.out.println(fine ? "the face is the document's" : "the face is " + seen + ", hidden ones with its names "
            + hidden);
        if (!fine) {
            System.exit(1);
        }
    }

    private static void sort(int modifiers, String member, Set<String> seen) {
        if (!Modifier.isPrivate(modifiers)) {
            seen.add(member);
        }
    }
}
