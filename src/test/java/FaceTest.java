import java.lang.reflect.Constructor;
import java.lang.reflect.Field;
import java.lang.reflect.Method;
import java.lang.reflect.Modifier;
import java.util.Arrays;
import java.util.Set;
import java.util.TreeSet;
import java.util.stream.Collectors;

/** The public face, as the document writes it, and that nothing else can be seen. */
public final class FaceTest {
    private static final String I = "IllegalArgumentException";
    private static final String U = "UnsupportedOperationException";
    private static final String[] FACE = {
        "int memory(int, int)",
        "int grow(int, int)",
        "long load(int, int, int, int) " + I + " " + U,
        "void store(int, int, int, int, long) " + I + " " + U,
        "void fill(int, int, int, int) " + I + " " + U,
        "void copy(int, int, int, int) " + I + " " + U,
        "void init(int, int, int, int, int) " + I + " " + U,
        "int data(long, int, boolean)",
        "void drop(int, boolean) " + I,
        "int table(int, int, int)",
        "int get(int, int) " + I + " " + U,
        "void set(int, int, int) " + I + " " + U,
        "int growTable(int, int, int)",
        "void fillTable(int, int, int, int) " + I + " " + U,
        "void copyTable(int, int, int, int, int) " + I + " " + U,
        "void initTable(int, int, int, int, int) " + I + " " + U,
        "int element(int, boolean)",
        "int trap()",
        "int size(int, int)",
    };

    public static void main(String[] args) {
        int modifiers = PagedMemory.class.getModifiers();
        Check.compare("the class is public and final", "true",
            Boolean.toString(Modifier.isPublic(modifiers) && Modifier.isFinal(modifiers)));
        methodsAreThoseOfTheDocument();
        for (Field field : PagedMemory.class.getDeclaredFields()) {
            isPrivate("field " + field.getName(), field.getModifiers());
            isFinalIfStatic(field);
        }
        Constructor<?>[] constructors = PagedMemory.class.getDeclaredConstructors();
        Check.compare("constructors", "1", Integer.toString(constructors.length));
        Check.compare("the constructor", "public PagedMemory()", constructors[0].toString());
        Check.finish();
    }

    private static void methodsAreThoseOfTheDocument() {
        Set<String> seen = new TreeSet<>();
        Set<String> publicNames = new TreeSet<>();
        for (Method method : PagedMemory.class.getDeclaredMethods()) {
            if (Modifier.isPublic(method.getModifiers())) {
                seen.add(written(method));
                publicNames.add(method.getName());
            } else {
                isPrivate("method " + method.getName(), method.getModifiers());
            }
        }
        Check.compare("the face", new TreeSet<>(Arrays.asList(FACE)).toString(), seen.toString());
        for (Method method : PagedMemory.class.getDeclaredMethods()) {
            boolean hidden = !Modifier.isPublic(method.getModifiers());
            Check.compare("a private method with a public one's name: " + method.getName(), "false",
                Boolean.toString(hidden && publicNames.contains(method.getName())));
        }
    }

    private static String written(Method method) {
        String parameters = names(method.getParameterTypes(), ", ");
        String thrown = names(method.getExceptionTypes(), " ");
        String face = method.getReturnType().getSimpleName() + " " + method.getName() + "(" + parameters + ")";
        return thrown.isEmpty() ? face : face + " " + thrown;
    }

    private static String names(Class<?>[] types, String between) {
        return Arrays.stream(types).map(Class::getSimpleName).collect(Collectors.joining(between));
    }

    private static void isPrivate(String what, int modifiers) {
        Check.compare(what + " is private", "true", Boolean.toString(Modifier.isPrivate(modifiers)));
    }

    private static void isFinalIfStatic(Field field) {
        int modifiers = field.getModifiers();
        Check.compare("static field " + field.getName() + " is final", "true",
            Boolean.toString(!Modifier.isStatic(modifiers) || Modifier.isFinal(modifiers)));
    }
}
