import java.lang.reflect.Constructor;
import java.lang.reflect.Field;
import java.lang.reflect.Method;
import java.lang.reflect.Modifier;
import java.util.ArrayList;
import java.util.Arrays;
import java.util.List;
import java.util.stream.Collectors;
import java.util.stream.Stream;

/** The face of the class: what the document names, and nothing besides. */
public final class FaceTest {
    private static final String ARGUMENT = "IllegalArgumentException";
    private static final String STATE = "IllegalStateException";
    private static final String INDEX = "IndexOutOfBoundsException";

    private static final String[] DUE = {
        "int addKind(int, int, int, int, int, int) " + ARGUMENT + ", " + STATE,
        "int setRules(int, int, int, boolean) " + ARGUMENT,
        "int count(int) " + INDEX,
        "int reason(int, int, int, boolean) " + INDEX,
        "int put(int, int, int, boolean) " + INDEX + ", " + STATE,
        "int takeOff(int) " + INDEX + ", " + STATE,
        "int item(int, int) " + INDEX,
        "int top(int, int) " + INDEX,
        "int at(int, int, int) " + INDEX,
        "boolean restsOn(int, int) " + INDEX,
        "int best(int) " + INDEX,
        "int fill(int, int) " + INDEX + ", " + ARGUMENT,
        "int addLine(int, int) " + INDEX + ", " + ARGUMENT + ", " + STATE,
        "int stack() ",
        "int line(int, boolean) " + INDEX,
        "int clear() ",
        "int sum(int) " + INDEX,
        "double middle(boolean) ",
        "double filled() ",
        "long digest() "};

    public static void main(String[] args) {
        List<String> publicFace = new ArrayList<>();
        List<String> publicNames = new ArrayList<>();
        for (Method method : PalletStack.class.getDeclaredMethods()) {
            if (!Modifier.isPrivate(method.getModifiers())) {
                Checks.same(method.getName() + " is public and no more", method.getModifiers(), Modifier.PUBLIC);
                publicFace.add(faceOf(method));
                publicNames.add(method.getName());
            }
        }
        for (String due : DUE) {
            Checks.yes("the class has " + due, publicFace.remove(due));
        }
        Checks.yes("the document names " + publicFace, publicFace.isEmpty());
        for (Method method : PalletStack.class.getDeclaredMethods()) {
            Checks.yes(method.getName() + " is not the name of a public method too",
                    !Modifier.isPrivate(method.getModifiers()) || !publicNames.contains(method.getName()));
        }
        for (Field field : PalletStack.class.getDeclaredFields()) {
            Checks.yes(field.getName() + " is private", Modifier.isPrivate(field.getModifiers()));
            Checks.yes(field.getName() + " is no static state", !Modifier.isStatic(field.getModifiers())
                    || Modifier.isFinal(field.getModifiers()));
        }
        Constructor<?>[] constructors = PalletStack.class.getDeclaredConstructors();
        Checks.same("constructors", constructors.length, 1);
        Checks.yes("the constructor is public, without parameters",
                constructors[0].getModifiers() == Modifier.PUBLIC && constructors[0].getParameterCount() == 0);
        Checks.same("the class is public and final", PalletStack.class.getModifiers(),
                Modifier.PUBLIC | Modifier.FINAL);
        Checks.end();
    }

    private static String faceOf(Method method) {
        return method.getReturnType() + " " + method.getName() + "("
                + joined(method.getParameterTypes()) + ") " + joined(method.getExceptionTypes());
    }

    private static String joined(Class<?>[] types) {
        Stream<Class<?>> all = Arrays.stream(types);
        return all.map(Class::getSimpleName).collect(Collectors.joining(", "));
    }
}
