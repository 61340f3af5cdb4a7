import java.lang.reflect.Field;
import java.lang.reflect.Method;
import java.lang.reflect.Modifier;
import java.util.ArrayList;
import java.util.List;
import java.util.Map;
import java.util.Set;
import java.util.TreeMap;

/** The rules of LANGUAGE.md by their numbers, as far as the compiled class shows them. */
public final class LanguageTest {
    // What the class uses of the library that rule 4 lists; who uses more of that list adds it here.
    private static final Set<String> LIBRARY = Set.of("java/lang/Object.<init>()V",
        "java/lang/String.indexOf(I)I", "java/lang/System.arraycopy(Ljava/lang/Object;ILjava/lang/Object;II)V",
        "java/util/Arrays.fill([II)V", "java/lang/Integer.bitCount(I)I", "java/lang/Math.min(II)I",
        "java/lang/Math.max(II)I", "java/lang/Math.max(JJ)J");
    private static final Set<Class<?>> STATIC_TYPES = Set.of(int.class, long.class, boolean.class, char.class,
        String.class, int[].class, long[].class, char[].class, byte[].class);
    private static final int MOST_CLASSES = 12, MOST_FIELDS = 20, MOST_PARAMETERS = 7, MOST_LINES = 60, DEEPEST = 8;

    private static final List<Class<?>> classes = new ArrayList<>();
    private static final Map<String, ClassFile.Method> methods = new TreeMap<>();
    private static int wrong = 0;

    public static void main(String[] args) throws Exception {
        classes.add(PotAndFine.class);
        classes.addAll(List.of(PotAndFine.class.getDeclaredClasses()));
        for (Class<?> one : classes) {
            for (ClassFile.Method method : new ClassFile(one.getName()).methods) {
                methods.put(method.described, method);
            }
        }
        libraryIsListed();
        staticFieldsAreConstants();
        nothingIsThrown();
        allIsSmall();
        callsAreNotDeep();
        nothingIsMadeByCalls();
        System.out.println(wrong == 0 ? "the rules of the language are kept" : wrong + " faults");
        if (wrong != 0) {
            System.exit(1);
        }
    }

    private static void hold(int rule, String what, boolean holds) {
        if (!holds) {
            wrong++;
            System.out.println("rule " + rule + " does not hold: " + what);
        }
    }

    private static void libraryIsListed() {
        hold(4, "the methods are found", methods.size() > 40);
        for (ClassFile.Method method : methods.values()) {
            for (String called : method.calls) {
                hold(4, method.described + " calls " + called, methods.containsKey(called) || LIBRARY.contains(called));
            }
        }
    }

    private static void staticFieldsAreConstants() {
        for (Class<?> one : classes) {
            for (Field field : one.getDeclaredFields()) {
                if (Modifier.isStatic(field.getModifiers())) {
                    hold(5, field + " is final", Modifier.isFinal(field.getModifiers()));
                    hold(5, field + " is of a type for constants", STATIC_TYPES.contains(field.getType()));
                }
            }
        }
    }

    private static void nothingIsThrown() {
        for (ClassFile.Method method : methods.values()) {
            hold(6, method.described + " throws, catches or locks", !method.throwsOrCatches);
        }
    }

    private static void allIsSmall() {
        hold(11, classes.size() + " classes", classes.size() <= MOST_CLASSES);
        for (Class<?> one : classes) {
            int fields = 0;
            for (Field field : one.getDeclaredFields()) {
                fields += Modifier.isStatic(field.getModifiers()) ? 0 : 1;
            }
            hold(11, one + " has " + fields + " fields", fields <= MOST_FIELDS);
            for (Method method : one.getDeclaredMethods()) {
                hold(11, method + " takes too much", method.getParameterCount() <= MOST_PARAMETERS);
            }
            for (var made : one.getDeclaredConstructors()) {
                hold(11, made + " takes too much", made.getParameterCount() <= MOST_PARAMETERS);
            }
        }
        for (ClassFile.Method method : methods.values()) {
            boolean written = !method.name.equals("<clinit>") && !method.name.equals("<init>");
            hold(11, method.described + " is long", !written || method.lines <= MOST_LINES);
        }
    }

    private static void callsAreNotDeep() {
        for (ClassFile.Method method : methods.values()) {
            int depth = depthOf(method, 1);
            hold(11, method.described + " goes " + depth + " deep", depth <= DEEPEST);
        }
    }

    // A method that calls itself, by whatever way, is told as too deep, too: the class has no use for recursion.
    private static int depthOf(ClassFile.Method method, int above) {
        int depth = 1;
        for (String called : method.calls) {
            if (methods.containsKey(called) && above <= DEEPEST) {
                depth = Math.max(depth, 1 + depthOf(methods.get(called), above + 1));
            }
        }
        return depth;
    }

    // All that is made is made with the object, so long runs do not fill the room.
    private static void nothingIsMadeByCalls() {
        for (ClassFile.Method method : methods.values()) {
            boolean made = !method.name.equals("<init>") && !method.name.equals("<clinit>") && method.makes;
            hold(12, method.described + " makes something", !made);
        }
    }
}
