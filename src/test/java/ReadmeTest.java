import java.lang.reflect.Method;
import java.lang.reflect.Modifier;
import java.nio.charset.StandardCharsets;
import java.nio.file.Files;
import java.nio.file.Path;
import java.util.Set;
import java.util.TreeSet;
import java.util.regex.Matcher;
import java.util.regex.Pattern;

/** Each line of the README's example answers the number that stands behind it; and the README names every call. */
public final class ReadmeTest {
    private static final Pattern LINE = Pattern.compile("x\\.(\\w+)\\((.*?)\\); +// (-?\\d+).*");
    private static int wrong = 0;

    public static void main(String[] args) throws Exception {
        String text = Files.readString(Path.of("README.md"), StandardCharsets.UTF_8);
        example(text.split("\n"));
        everyCallIsNamed(text);
        System.out.println(wrong == 0 ? "the README tells what is so" : wrong + " faults");
        if (wrong != 0) {
            System.exit(1);
        }
    }

    private static void fault(String what) {
        wrong++;
        System.out.println(what);
    }

    private static void example(String[] lines) throws Exception {
        PotAndFine x = new PotAndFine();
        int calls = 0;
        for (String line : lines) {
            Matcher call = LINE.matcher(line);
            if (call.matches()) {
                long got = answer(x, call.group(1), call.group(2));
                calls++;
                if (got != Long.parseLong(call.group(3))) {
                    fault("\"" + line + "\" answered " + got);
                }
            } else if (line.startsWith("x.")) {
                fault("\"" + line + "\" tells no answer");
            }
        }
        if (calls == 0) {
            fault("there is no example");
        }
    }

    private static long answer(PotAndFine x, String name, String arguments) throws Exception {
        for (Method method : PotAndFine.class.getMethods()) {
            if (method.getName().equals(name)) {
                Class<?>[] types = method.getParameterTypes();
                String[] words = arguments.isEmpty() ? new String[0] : arguments.split(", ");
                Object[] values = new Object[types.length];
                for (int i = 0; i < types.length; i++) {
                    values[i] = value(types[i], words[i]);
                }
                return ((Number) method.invoke(x, values)).longValue();
            }
        }
        throw new IllegalArgumentException(name);
    }

    private static Object value(Class<?> type, String word) {
        if (type == boolean.class) {
            return word.equals("true");
        }
        if (type == int.class) {
            return Integer.decode(word);
        }
        return Long.decode(word.replace("L", ""));
    }

    private static void everyCallIsNamed(String text) {
        Set<String> missing = new TreeSet<>();
        for (Method method : PotAndFine.class.getDeclaredMethods()) {
            boolean isPublic = Modifier.isPublic(method.getModifiers());
            if (isPublic && !text.contains("`" + method.getName() + "`")) {
                missing.add(method.getName());
            }
        }
        if (!missing.isEmpty()) {
            fault("the README does not name " + missing);
        }
    }
}
