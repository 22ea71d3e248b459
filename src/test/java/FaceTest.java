import java.lang.reflect.Constructor;
import java.lang.reflect.Field;
import java.lang.reflect.Member;
import java.lang.reflect.Method;
import java.lang.reflect.Modifier;
import java.util.ArrayList;
import java.util.List;
import java.util.TreeSet;

/** The class has the document's face and nothing else that can be seen from outside. */
public final class FaceTest {
    private static final String ARGUMENT = " throws IllegalArgumentException";
    private static final String BOTH = ARGUMENT + ",IllegalStateException";

    private static final List<String> FACE = List.of(
            "void variable(int,int,int)" + ARGUMENT,
            "int word(int)" + BOTH,
            "int formula()" + BOTH,
            "int event(int,int,int)" + BOTH,
            "void guard(int,int)" + ARGUMENT,
            "void assign(int,int,int)" + ARGUMENT,
            "void witness(int,int)" + ARGUMENT,
            "int invariant(int,int)" + BOTH,
            "void variant(int)" + ARGUMENT,
            "boolean done(int,int)" + ARGUMENT,
            "int broken(int)" + ARGUMENT,
            "int open()",
            "void start()",
            "boolean enabled(int,int)" + BOTH,
            "int fire(int,int)" + BOTH + ",UnsupportedOperationException",
            "int back() throws IllegalStateException",
            "int value(int)" + ARGUMENT,
            "boolean torn()",
            "boolean right()");

    public static void main(String[] args) {
        Class<?> face = GluedMachines.class;
        Expect.same("the class is public", true, Modifier.isPublic(face.getModifiers()));
        Expect.same("the class is final", true, Modifier.isFinal(face.getModifiers()));
        TreeSet<String> found = new TreeSet<>();
        TreeSet<String> hidden = new TreeSet<>();
        for (Method method : face.getDeclaredMethods()) {
            if (isHidden(method)) {
                hidden.add(method.getName());
            } else {
                found.add(textOf(method));
            }
        }
        Expect.same("what can be seen", new TreeSet<>(FACE), found);
        for (String text : FACE) {
            String name = text.substring(text.indexOf(' ') + 1, text.indexOf('('));
            Expect.same("a private method " + name, false, hidden.contains(name));
        }
        Expect.same("constructors", 1, face.getDeclaredConstructors().length);
        for (Constructor<?> made : face.getDeclaredConstructors()) {
            Expect.same("the constructor is public", true, Modifier.isPublic(made.getModifiers()));
            Expect.same("parameters of the constructor", 0, made.getParameterCount());
        }
        for (Field field : face.getDeclaredFields()) {
            Expect.same("field " + field.getName() + " is private", true, isHidden(field));
        }
        Expect.close();
    }

    private static boolean isHidden(Member member) {
        return Modifier.isPrivate(member.getModifiers());
    }

    private static String textOf(Method method) {
        List<String> parameters = new ArrayList<>();
        for (Class<?> type : method.getParameterTypes()) {
            parameters.add(type.getSimpleName());
        }
        List<String> thrown = new ArrayList<>();
        for (Class<?> type : method.getExceptionTypes()) {
            thrown.add(type.getSimpleName());
        }
        return method.getReturnType().getSimpleName() + " " + method.getName()
                + "(" + String.join(",", parameters) + ")"
                + (thrown.isEmpty() ? "" : " throws " + String.join(",", thrown));
    }
}
