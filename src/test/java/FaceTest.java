import java.lang.reflect.Constructor;
import java.lang.reflect.Field;
import java.lang.reflect.Method;
import java.lang.reflect.Modifier;
import java.util.Arrays;
import java.util.List;
import java.util.Set;
import java.util.TreeSet;

/** The class has the public face of the document, and no other member that can be seen. */
public final class FaceTest {
    private static final String INDEX = " throws IndexOutOfBoundsException";
    private static final String STATE = INDEX + " IllegalStateException";
    private static final String ARGUMENT = INDEX + " IllegalArgumentException";
    private static final List<String> FACE = List.of(
            "void set(int long)" + INDEX,
            "void append(int int)" + STATE,
            "void negate(int)" + INDEX,
            "void copy(int int)" + INDEX,
            "void add(int int int)" + STATE,
            "void subtract(int int int)" + STATE,
            "void multiply(int int int)" + STATE,
            "void divide(int int int int)" + ARGUMENT,
            "void root(int int)" + ARGUMENT,
            "int compare(int int)" + INDEX,
            "int compareSizes(int int)" + INDEX,
            "int sign(int)" + INDEX,
            "int bits(int)" + INDEX,
            "int word(int int)" + INDEX,
            "int residue(int int)" + ARGUMENT);

    private FaceTest() {
    }

    public static void main(String[] args) {
        Class<?> face = WholeRegisters.class;
        Check.same("the class is public", Modifier.isPublic(face.getModifiers()), true);
        Check.same("the class is final", Modifier.isFinal(face.getModifiers()), true);
        Check.same("the class above", face.getSuperclass(), Object.class);
        Check.same("its interfaces", face.getInterfaces().length, 0);
        constructors(face);
        methods(face);
        for (Field field : face.getDeclaredFields()) {
            int modifiers = field.getModifiers();
            Check.same(field.getName() + " is private", Modifier.isPrivate(modifiers), true);
            Check.same(field.getName() + " is final", Modifier.isFinal(modifiers), true);
        }
        Check.end();
    }

    private static void constructors(Class<?> face) {
        Constructor<?>[] all = face.getDeclaredConstructors();
        Check.same("constructors", all.length, 1);
        Check.same("the constructor is public", Modifier.isPublic(all[0].getModifiers()), true);
        Check.same("the constructor's parameters", all[0].getParameterCount(), 0);
    }

    private static void methods(Class<?> face) {
        Set<String> seen = new TreeSet<>();
        Set<String> publicNames = new TreeSet<>();
        Set<String> privateNames = new TreeSet<>();
        for (Method method : face.getDeclaredMethods()) {
            if (Modifier.isPrivate(method.getModifiers())) {
                privateNames.add(method.getName());
                Check.same(method.getName() + " has seven parameters at most",
                        method.getParameterCount() <= 7, true);
            } else {
                publicNames.add(method.getName());
                seen.add(text(method));
            }
        }
        Check.same("the face", seen, new TreeSet<>(FACE));
        privateNames.retainAll(publicNames);
        Check.same("private methods with a public one's name", privateNames, new TreeSet<String>());
    }

    private static String text(Method method) {
        String modifiers = Modifier.toString(method.getModifiers());
        String ahead = modifiers.equals("public") ? "" : modifiers + "! ";
        String thrown = names(method.getExceptionTypes());
        return ahead + method.getReturnType().getSimpleName() + " " + method.getName()
                + "(" + names(method.getParameterTypes()) + ")"
                + (thrown.isEmpty() ? "" : " throws " + thrown);
    }

    private static String names(Class<?>[] types) {
        return String.join(" ", Arrays.stream(types).map(Class::getSimpleName).toList());
    }
}
