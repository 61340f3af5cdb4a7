import java.lang.reflect.Constructor;
import java.lang.reflect.Field;
import java.lang.reflect.Method;
import java.lang.reflect.Modifier;
import java.nio.charset.StandardCharsets;
import java.nio.file.Files;
import java.nio.file.Path;
import java.util.Arrays;
import java.util.List;
import java.util.Set;
import java.util.TreeSet;
import java.util.regex.Matcher;
import java.util.regex.Pattern;
import java.util.stream.Collectors;

/** The public face is the document's, no more; and the file keeps to what can be seen of the language's rules. */
public final class FaceTest {
    private static final String FACE = "int write(int, long); int wipe(); int fault(boolean); int rule(); int group();"
        + " int ruled(int); int person(int, int); int tell(int, int, int); int send(int, int); int fine(int);"
        + " int put(int, int); int paid(int, int, int); int pot(int); int here(int); long holds(int, int);"
        + " long all(int, boolean); int lost(int, int); int fall(); int pays(); int vote(int); int least(int, int);"
        + " int leader(); long led(); int whom(); long without(int); int part(); long parted(); int reply(int, int);"
        + " long gain(int, int, int); int rest(int); int note(int, int, int); int would(int, int, int);"
        + " int slips(int, int); int sort(int); int sorts(int, int); int copy(); int keep(int); int again(int);"
        + " int count(int)";
    private static int wrong = 0;

    private static void hold(String what, boolean holds) {
        if (!holds) {
            wrong++;
            System.out.println("does not hold: " + what);
        }
    }

    public static void main(String[] args) throws Exception {
        methods();
        members();
        source();
        System.out.println(wrong == 0 ? "the face and the rules are kept" : wrong + " faults");
        if (wrong != 0) {
            System.exit(1);
        }
    }

    private static void methods() {
        Set<String> found = new TreeSet<>();
        Set<String> names = new TreeSet<>();
        for (Method method : PotAndFine.class.getDeclaredMethods()) {
            if (!Modifier.isPrivate(method.getModifiers())) {
                hold(method + " is public and not static",
                    (method.getModifiers() & (Modifier.PUBLIC | Modifier.STATIC)) == Modifier.PUBLIC);
                found.add(method.getReturnType() + " " + method.getName() + "(" + Arrays.stream(
                    method.getParameterTypes()).map(Class::toString).collect(Collectors.joining(", ")) + ")");
                names.add(method.getName());
            }
        }
        hold("the methods are the document's: " + found, found.equals(new TreeSet<>(List.of(FACE.split("; ")))));
        for (Method method : PotAndFine.class.getDeclaredMethods()) {
            hold(method + " bears no public name",
                !Modifier.isPrivate(method.getModifiers()) || !names.contains(method.getName()));
        }
        for (Class<?> inside : PotAndFine.class.getDeclaredClasses()) {
            for (Method method : inside.getDeclaredMethods()) {
                hold(method + " bears no public name", !names.contains(method.getName()));
            }
            hold(inside + " is static, not public", Modifier.isStatic(inside.getModifiers())
                && !Modifier.isPublic(inside.getModifiers()) && !Modifier.isProtected(inside.getModifiers()));
        }
    }

    private static void members() throws Exception {
        hold("the class is public and final", Modifier.isPublic(PotAndFine.class.getModifiers())
            && Modifier.isFinal(PotAndFine.class.getModifiers()));
        Constructor<?>[] made = PotAndFine.class.getDeclaredConstructors();
        hold("one constructor, public, without arguments", made.length == 1 && made[0].getParameterCount() == 0
            && Modifier.isPublic(made[0].getModifiers()));
        Set<String> constants = new TreeSet<>();
        for (Field field : PotAndFine.class.getDeclaredFields()) {
            int is = field.getModifiers();
            if (Modifier.isStatic(is)) {
                hold(field + " is final", Modifier.isFinal(is));
            }
            if (!Modifier.isPrivate(is)) {
                hold(field + " is a public constant", Modifier.isPublic(is) && Modifier.isStatic(is));
                constants.add(field.getName() + field.getInt(null));
            }
        }
        hold("the constants are the document's: " + constants,
            constants.equals(Set.of("UNKNOWN-1", "BAD-2", "LATE-3", "FULL-4", "NONE-9")));
    }

    private static void source() throws Exception {
        String text = Files.readString(Path.of("src/main/java/PotAndFine.java"), StandardCharsets.UTF_8);
        String code = text.replaceAll("(?s)/\\*.*?\\*/", "").replaceAll("//[^\n]*", "");
        Matcher refused = Pattern.compile("\\b(throw|throws|try|catch|synchronized|assert|package|Exception)\\b"
            + "|->|::|\\b\\w+Exact\\b|\\bstatic\\s*\\{").matcher(code);
        while (refused.find()) {
            hold("no " + refused.group(), false);
        }
        Matcher imported = Pattern.compile("import ([^;]*);").matcher(code);
        while (imported.find()) {
            hold("import of " + imported.group(1), imported.group(1).equals("java.util.Arrays"));
        }
    }
}
