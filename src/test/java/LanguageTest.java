import java.lang.management.ManagementFactory;
import java.lang.reflect.Constructor;
import java.lang.reflect.Executable;
import java.lang.reflect.Field;
import java.lang.reflect.Method;
import java.lang.reflect.Modifier;
import java.nio.file.Files;
import java.nio.file.Path;
import java.util.ArrayList;
import java.util.List;
import java.util.Set;
import java.util.TreeSet;
import java.util.regex.Matcher;
import java.util.regex.Pattern;

/**
 * Those rules of ../shared/LANGUAGE.md that can be read off the class and its source, and what the
 * dearest calls make. Rule 1 has a test of its own, FaceTest.
 */
public final class LanguageTest {
    private static final Path FILE = Path.of("src/main/java/GluedMachines.java");

    /** The library of rule 4, as far as a class name and a method name tell it. */
    private static final Pattern LIBRARY = Pattern.compile(
            "(System\\.arraycopy|Arrays\\.(copyOf|copyOfRange|fill)"
            + "|(Math|Integer|Long)\\.(?!\\w*Exact\\b)\\w+)");
    private static final Pattern CALL_OF_A_CLASS =
            Pattern.compile("\\b[A-Z][a-z]\\w*\\.[a-z]\\w*\\(");
    private static final Set<String> THROWN = Set.of("IllegalStateException",
            "IllegalArgumentException", "IndexOutOfBoundsException", "ArithmeticException",
            "UnsupportedOperationException", "NoSuchElementException", "RuntimeException");
    private static final String[] NOT_IN_IT = {"finally", "synchronized", "assert", "volatile",
        "native", "transient", "strictfp", "package", "var", "Object", "Thread", "equals",
        "hashCode", "toString", "getMessage", "getClass", "catch", "try"};

    private static String source;
    private static final List<Class<?>> CLASSES = new ArrayList<>();

    public static void main(String[] args) throws Exception {
        source = withoutCommentsAndTexts(Files.readString(FILE));
        CLASSES.add(GluedMachines.class);
        CLASSES.addAll(List.of(GluedMachines.class.getDeclaredClasses()));
        classesInside();
        noLambdas();
        types();
        library();
        staticFields();
        exceptions();
        noMethodCallsItself();
        sizes();
        room();
        Expect.close();
    }

    private static String withoutCommentsAndTexts(String text) {
        return text.replaceAll("(?s)/\\*.*?\\*/", " ").replaceAll("//[^\n]*", " ")
                .replaceAll("\"[^\"\n]*\"", "\"\"");
    }

    /** Rules 1 and 2: "private or package-visible and static"; one file, one public class. */
    private static void classesInside() {
        for (Class<?> inside : GluedMachines.class.getDeclaredClasses()) {
            int is = inside.getModifiers();
            Expect.same(inside.getSimpleName() + " is static", true, Modifier.isStatic(is));
            Expect.same(inside.getSimpleName() + " is seen", false,
                    Modifier.isPublic(is) || Modifier.isProtected(is));
            Expect.same("classes in " + inside.getSimpleName(), 0,
                    inside.getDeclaredClasses().length);
        }
        int brackets = 0;
        int besideEachOther = 0;
        for (int i = 0; i < source.length(); i++) {
            char c = source.charAt(i);
            besideEachOther += c == '{' && brackets == 0 ? 1 : 0;
            brackets += c == '{' ? 1 : c == '}' ? -1 : 0;
        }
        Expect.same("classes in the file", 1, besideEachOther);
    }

    /** Rule 2: "no lambda, no method reference"; and what rule 6 leaves out. */
    private static void noLambdas() {
        Expect.same("an arrow", false, source.contains("->"));
        Expect.same("a reference to a method", false, source.contains("::"));
        for (String word : NOT_IN_IT) {
            Expect.same("the word " + word, false, hasWord(word));
        }
    }

    private static boolean hasWord(String word) {
        return Pattern.compile("\\b" + word + "\\b").matcher(source).find();
    }

    /** Rule 3 allows more than these, but the class has no need of it. */
    private static void types() {
        for (Class<?> one : CLASSES) {
            for (Field field : one.getDeclaredFields()) {
                allowed(one.getSimpleName() + "." + field.getName(), field.getType());
            }
            for (Method method : one.getDeclaredMethods()) {
                String name = one.getSimpleName() + "." + method.getName();
                allowed("answer of " + name, method.getReturnType());
                for (Class<?> type : method.getParameterTypes()) {
                    allowed("parameter of " + name, type);
                }
            }
        }
    }

    private static void allowed(String what, Class<?> type) {
        Class<?> plain = type.isArray() ? type.getComponentType() : type;
        Expect.same(what + ": its type is allowed", true,
                plain.isPrimitive() || plain == String.class || CLASSES.contains(plain));
    }

    /** Rule 4: "only what stands here". */
    private static void library() {
        Matcher imports = Pattern.compile("\\bimport ([^;]*);").matcher(source);
        while (imports.find()) {
            Expect.same("import " + imports.group(1) + " is allowed", true,
                    Set.of("java.util.Arrays", "java.util.ArrayList", "java.util.List")
                            .contains(imports.group(1)));
        }
        Expect.same("uses of System", count("\\bSystem\\.arraycopy\\("), count("\\bSystem\\b"));
        Set<String> own = new TreeSet<>();
        for (Class<?> one : CLASSES) {
            own.add(one.getSimpleName());
        }
        Matcher calls = CALL_OF_A_CLASS.matcher(source);
        while (calls.find()) {
            String call = calls.group().substring(0, calls.group().length() - 1);
            boolean isOwn = own.contains(call.substring(0, call.indexOf('.')));
            Expect.same(call + " is allowed", true, isOwn || LIBRARY.matcher(call).matches());
        }
    }

    /** Rule 5: "Static fields are final"; "no static initialiser block". */
    private static void staticFields() {
        Expect.same("a static block", false, source.matches("(?s).*\\bstatic\\s*\\{.*"));
        for (Class<?> one : CLASSES) {
            for (Field field : one.getDeclaredFields()) {
                if (Modifier.isStatic(field.getModifiers())) {
                    String name = one.getSimpleName() + "." + field.getName();
                    Expect.same(name + " is final", true, Modifier.isFinal(field.getModifiers()));
                    Expect.same(name + " is a constant", true,
                            Set.of(int.class, long.class, boolean.class, char.class, String.class)
                                    .contains(field.getType()));
                }
            }
        }
    }

    /** Rule 6: "throw new E() or throw new E("a written text")"; "no throw in a constructor". */
    private static void exceptions() {
        int all = count("\\bthrow\\b");
        Matcher thrown = Pattern.compile("\\bthrow new (\\w+)\\((\"\")?\\);").matcher(source);
        int asItShould = 0;
        while (thrown.find()) {
            asItShould++;
            Expect.same(thrown.group(1) + " is allowed", true, THROWN.contains(thrown.group(1)));
        }
        Expect.same("throws that are written as they should be", all, asItShould);
        for (Class<?> one : CLASSES) {
            for (Constructor<?> made : one.getDeclaredConstructors()) {
                Expect.same("what a constructor throws", 0, made.getExceptionTypes().length);
            }
            for (String body : bodiesOf(one.getSimpleName())) {
                Expect.same("a throw in the constructor of " + one.getSimpleName(), false,
                        Pattern.compile("\\bthrow\\b").matcher(body).find());
            }
        }
    }

    private static int count(String pattern) {
        Matcher found = Pattern.compile(pattern).matcher(source);
        int times = 0;
        while (found.find()) {
            times++;
        }
        return times;
    }

    /** Rule 8: there is no recursion at all, so no depth has to be kept low. */
    private static void noMethodCallsItself() {
        List<String> names = methodNames();
        int size = names.size();
        boolean[][] reaches = new boolean[size][size];
        for (int i = 0; i < size; i++) {
            for (int j = 0; j < size; j++) {
                for (String body : bodiesOf(names.get(i))) {
                    reaches[i][j] |= Pattern.compile("(?<!new )\\b" + names.get(j) + "\\(")
                            .matcher(body).find();
                }
            }
        }
        int[] depths = new int[size];
        for (int round = 0; round <= size; round++) {
            for (int i = 0; i < size; i++) {
                for (int j = 0; j < size; j++) {
                    depths[i] = reaches[i][j] ? Math.max(depths[i], depths[j] + 1) : depths[i];
                }
            }
        }
        // Where methods call one another in a circle, each round makes it deeper.
        for (int i = 0; i < size; i++) {
            Expect.same("rule 11: calls under " + names.get(i) + " are at most eight deep", true,
                    depths[i] <= 7);
        }
    }

    private static List<String> methodNames() {
        Set<String> names = new TreeSet<>();
        for (Class<?> one : CLASSES) {
            for (Method method : one.getDeclaredMethods()) {
                names.add(method.getName());
            }
        }
        return new ArrayList<>(names);
    }

    /** What stands between the brackets of all methods and constructors with a name. */
    private static List<String> bodiesOf(String name) {
        List<String> bodies = new ArrayList<>();
        Matcher heads = Pattern.compile("\\b" + name + "\\([^()]*\\)[\\w\\s,]*\\{").matcher(source);
        while (heads.find()) {
            int open = 1;
            int end = heads.end();
            while (open > 0) {
                open += source.charAt(end) == '{' ? 1 : source.charAt(end) == '}' ? -1 : 0;
                end++;
            }
            bodies.add(source.substring(heads.end(), end));
        }
        return bodies;
    }

    /** Rule 11: parameters, lines of a method, classes of the file and fields of a class. */
    private static void sizes() {
        Expect.same("at most twelve classes", true, CLASSES.size() <= 12);
        for (String name : methodNames()) {
            List<String> bodies = bodiesOf(name);
            Expect.same("the method " + name + " is found", true, !bodies.isEmpty());
            for (String body : bodies) {
                Expect.same(name + " is short", true, body.split("\n").length <= 60);
            }
        }
        for (Class<?> one : CLASSES) {
            int fields = 0;
            for (Field field : one.getDeclaredFields()) {
                fields += Modifier.isStatic(field.getModifiers()) ? 0 : 1;
            }
            Expect.same("at most twenty fields in " + one.getSimpleName(), true, fields <= 20);
            List<Executable> all = new ArrayList<>(List.of(one.getDeclaredMethods()));
            all.addAll(List.of(one.getDeclaredConstructors()));
            for (Executable each : all) {
                Expect.same("at most seven parameters of " + each.getName(), true,
                        each.getParameterCount() <= 7);
            }
        }
    }

    /** Rule 12, and the room of all calls: a full object is small, and to use it makes nothing. */
    private static void room() {
        // What the virtual machine makes when calls are made for the first time is not counted.
        use(full());
        long before = allocated();
        GluedMachines m = full();
        long told = allocated() - before;
        Expect.same("a full object takes at most 64 KiB, not " + told, true, told <= 65536);
        before = allocated();
        use(m);
        long used = allocated() - before;
        Expect.same("its use makes next to nothing, not " + used, true, used <= 4096);
    }

    private static long allocated() {
        com.sun.management.ThreadMXBean threads =
                (com.sun.management.ThreadMXBean) ManagementFactory.getThreadMXBean();
        return threads.getCurrentThreadAllocatedBytes();
    }

    /** As many formulas, events and invariants as there can be, told by 354 calls of the 512. */
    private static GluedMachines full() {
        GluedMachines m = new GluedMachines();
        for (int v = 0; v < 6; v++) {
            m.variable(v, 4, 0);
        }
        for (int i = 0; i < 30; i++) {
            Expect.write(m, i % 2 == 0 ? 53 : 52, 52, 20, 52, 21, 52, 0, 22, 0);
        }
        for (int i = 0; i < 12; i++) {
            m.event(i % 2, 4, i % 2 == 1 ? i - 1 : -1);
            m.guard(i, 2 * i);
            m.assign(i, 3 * (i % 2) + i % 3, 1);
        }
        for (int i = 0; i < 6; i++) {
            m.invariant(0, 2 * i);
            m.invariant(1, 2 * i);
        }
        return m;
    }

    private static void use(GluedMachines m) {
        m.start();
        for (int k = 0; k < 60; k++) {
            m.enabled(1, 3);
            m.fire(1, 3);
        }
        m.back();
        for (int what = 0; what < 6; what++) {
            m.value(what);
            m.broken(what);
        }
        m.right();
        m.torn();
        m.open();
        m.done(0, 0);
        m.done(6, 0);
        for (int i = 0; i < 6; i++) {
            m.done(1, i);
            m.done(i % 2 == 0 ? 2 : 3, i);
        }
    }
}
