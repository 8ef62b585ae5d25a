import java.io.IOException;
import java.lang.reflect.InvocationTargetException;
import java.lang.reflect.Method;
import java.nio.file.Files;
import java.nio.file.Path;
import java.util.Set;
import java.util.TreeSet;
import java.util.regex.Matcher;
import java.util.regex.Pattern;

/** The lines of README.md that name an answer answer it, one after the other. */
public final class ReadmeTest {

    private static final Pattern MAKE = Pattern.compile(
            "ParrotSquawks parrot = new ParrotSquawks\\(\\);");
    private static final Pattern PUT = Pattern.compile("put\\(parrot, \"(.*)\"\\);");
    private static final Pattern CALL = Pattern.compile("parrot\\.(\\w+)\\((.*)\\); +// (\\S+)");

    private static final Set<String> called = new TreeSet<>();
    private static ParrotSquawks parrot;

    private ReadmeTest() {
    }

    public static void main(String[] args) throws IOException, ReflectiveOperationException {
        for (String line : Files.readAllLines(Path.of("README.md"))) {
            follow(line);
        }
        // By put.
        called.add("feed");
        for (Method method : ParrotSquawks.class.getMethods()) {
            if (method.getDeclaringClass() == ParrotSquawks.class) {
                Check.due("README.md shows " + method.getName(),
                        called.contains(method.getName()), true);
            }
        }
        Check.end();
    }

    private static void follow(String line) throws ReflectiveOperationException {
        Matcher put = PUT.matcher(line);
        Matcher call = CALL.matcher(line);
        if (MAKE.matcher(line).matches()) {
            parrot = new ParrotSquawks();
        } else if (put.matches()) {
            put(put.group(1).replace("\\n", "\n"));
        } else if (call.matches()) {
            called.add(call.group(1));
            String answer = answer(call.group(1), call.group(2));
            Check.due("README.md: " + line + " (" + answer + ")",
                    answer.equals(call.group(3)), true);
        }
    }

    private static String answer(String name, String arguments)
            throws ReflectiveOperationException {
        String[] texts = arguments.isEmpty() ? new String[0] : arguments.split(", ");
        Object[] numbers = new Object[texts.length];
        for (int i = 0; i < texts.length; i++) {
            numbers[i] = Integer.valueOf(texts[i]);
        }
        for (Method method : ParrotSquawks.class.getMethods()) {
            if (method.getName().equals(name) && method.getParameterCount() == texts.length) {
                return answer(method, numbers);
            }
        }
        return "no such call";
    }

    private static String answer(Method method, Object[] numbers)
            throws ReflectiveOperationException {
        try {
            return String.valueOf(method.invoke(parrot, numbers));
        } catch (InvocationTargetException e) {
            return e.getCause().getClass().getSimpleName();
        }
    }

    // As README.md says.
    private static void put(String text) {
        StringBuilder bytes = new StringBuilder(text);
        while (bytes.length() % 20 != 0) {
            bytes.append(' ');
        }
        int size = 0;
        for (int at = 0; at < bytes.length(); at += 20) {
            size = parrot.feed(four(bytes, at), four(bytes, at + 4), four(bytes, at + 8),
                    four(bytes, at + 12), four(bytes, at + 16));
        }
        parrot.trim(size - (bytes.length() - text.length()));
    }

    private static int four(StringBuilder bytes, int at) {
        return bytes.charAt(at) << 24 | bytes.charAt(at + 1) << 16 | bytes.charAt(at + 2) << 8
                | bytes.charAt(at + 3);
    }
}
