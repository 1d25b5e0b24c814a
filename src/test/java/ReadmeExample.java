import java.io.IOException;
import java.lang.reflect.Method;
import java.nio.file.Files;
import java.nio.file.Path;
import java.util.regex.Matcher;
import java.util.regex.Pattern;

/** Each call of the example in README.md answers what stands behind it there. */
public final class ReadmeExample {
    private static final Pattern LINE = Pattern.compile("x\\.(\\w+)\\((.*)\\);\\s*// ([^:]+)(:.*)?");

    public static void main(String[] args) throws IOException, ReflectiveOperationException {
        KeptTerms x = new KeptTerms();
        int tested = 0;
        int wrong = 0;
        for (String line : Files.readAllLines(Path.of("README.md"))) {
            Matcher call = LINE.matcher(line);
            if (call.matches()) {
                tested++;
                long got = answer(x, call.group(1), call.group(2));
                if (got != number(call.group(3))) {
                    wrong++;
                    System.out.println(line + ": answered " + got);
                }
            } else if (line.startsWith("x.")) {
                wrong++;
                System.out.println(line + ": no answer stands behind it");
            }
        }
        System.out.println(tested + " calls of README.md tested, " + wrong + " answers not as due");
        if (wrong > 0 || tested == 0) {
            System.exit(1);
        }
    }

    private static long answer(KeptTerms x, String name, String written) throws ReflectiveOperationException {
        for (Method call : KeptTerms.class.getMethods()) {
            if (call.getName().equals(name) && call.getDeclaringClass() == KeptTerms.class) {
                return ((Number) call.invoke(x, arguments(written))).longValue();
            }
        }
        throw new NoSuchMethodException(name);
    }

    private static Object[] arguments(String written) {
        if (written.isEmpty()) {
            return new Object[0];
        }
        String[] texts = written.split(", ");
        Object[] arguments = new Object[texts.length];
        for (int i = 0; i < texts.length; i++) {
            arguments[i] = argument(texts[i]);
        }
        return arguments;
    }

    private static Object argument(String text) {
        if (text.equals("true") || text.equals("false")) {
            return text.equals("true");
        }
        return text.startsWith("'") ? (int) text.charAt(1) : Integer.parseInt(text);
    }

    private static long number(String text) {
        return text.equals("KeptTerms.NOTHING") ? KeptTerms.NOTHING : Long.parseLong(text);
    }
}
