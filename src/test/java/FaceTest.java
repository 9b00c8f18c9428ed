import java.lang.reflect.Constructor;
import java.lang.reflect.Field;
import java.lang.reflect.Method;
import java.lang.reflect.Modifier;
import java.util.HashSet;
import java.util.List;
import java.util.Set;
import java.util.TreeSet;

/** The class has the face of the document and nothing beside it. */
public final class FaceTest {
    private static final List<String> FACE = List.of(
            "int weights(int, long) throws IllegalArgumentException",
            "void weightScale(double) throws IllegalArgumentException",
            "int input(int, int, int, double) throws IllegalArgumentException, IllegalStateException",
            "int windows(int, int, boolean, int, double)"
                    + " throws IllegalArgumentException, ArithmeticException, IllegalStateException",
            "int dense(int, int, int, double)"
                    + " throws IllegalArgumentException, ArithmeticException, IllegalStateException",
            "int add(int, int, double) throws IllegalArgumentException, ArithmeticException, IllegalStateException",
            "int concat(int, int) throws IllegalArgumentException, IllegalStateException",
            "int reshape(int, int, int, int) throws IllegalArgumentException, IllegalStateException",
            "int pool(int, int, boolean) throws IllegalArgumentException, IllegalStateException",
            "int clamp(int, int, int) throws IllegalArgumentException, IllegalStateException",
            "int rescale(int, double) throws IllegalArgumentException, ArithmeticException, IllegalStateException",
            "int output(int) throws IllegalArgumentException",
            "int compile() throws IllegalStateException",
            "int feed(int, int, long) throws IllegalArgumentException",
            "int run(int) throws IllegalArgumentException, IllegalStateException, UnsupportedOperationException",
            "int arena(int) throws NoSuchElementException",
            "double result(int) throws NoSuchElementException",
            "int about(int, int) throws IllegalArgumentException, IllegalStateException, NoSuchElementException",
            "int peak() throws IllegalStateException");

    public static void main(String[] args) {
        Check.part("face");
        int modifiers = TensorForge.class.getModifiers();
        Check.holds("public and final", Modifier.isPublic(modifiers) && Modifier.isFinal(modifiers));
        Constructor<?>[] constructors = TensorForge.class.getDeclaredConstructors();
        Check.holds("one public constructor without parameters", constructors.length == 1
                && Modifier.isPublic(constructors[0].getModifiers()) && constructors[0].getParameterCount() == 0);
        checkMethods();
        checkFields();
        for (Class<?> inside : TensorForge.class.getDeclaredClasses()) {
            int of = inside.getModifiers();
            Check.holds(inside + " is static and not public",
                    Modifier.isStatic(of) && !Modifier.isPublic(of) && !Modifier.isProtected(of));
        }
        Check.end();
    }

    private static void checkMethods() {
        Set<String> open = new TreeSet<>();
        Set<String> openNames = new HashSet<>();
        for (Method method : TensorForge.class.getDeclaredMethods()) {
            if (!Modifier.isPrivate(method.getModifiers())) {
                Check.holds(method + " is public", Modifier.isPublic(method.getModifiers()));
                open.add(written(method));
                openNames.add(method.getName());
            }
        }
        Check.same(new TreeSet<>(FACE).toString(), open.toString());
        for (Method method : TensorForge.class.getDeclaredMethods()) {
            if (Modifier.isPrivate(method.getModifiers())) {
                Check.holds(method + " bears no public name", !openNames.contains(method.getName()));
            }
        }
    }

    private static void checkFields() {
        for (Field field : TensorForge.class.getDeclaredFields()) {
            Check.holds(field + " is private", Modifier.isPrivate(field.getModifiers()));
        }
    }

    private static String written(Method method) {
        StringBuilder text = new StringBuilder();
        for (Class<?> type : method.getParameterTypes()) {
            text.append(text.length() == 0 ? "" : ", ").append(type.getSimpleName());
        }
        StringBuilder thrown = new StringBuilder();
        for (Class<?> type : method.getExceptionTypes()) {
            thrown.append(thrown.length() == 0 ? " throws " : ", ").append(type.getSimpleName());
        }
        return method.getReturnType().getSimpleName() + " " + method.getName() + "(" + text + ")" + thrown;
    }
}
