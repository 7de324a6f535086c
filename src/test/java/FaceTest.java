import java.lang.reflect.Constructor;
import java.lang.reflect.Field;
import java.lang.reflect.Method;
import java.lang.reflect.Modifier;
import java.util.Arrays;
import java.util.Set;
import java.util.TreeSet;

/** The public face is the document's, throws clauses too, and no more than that. */
public final class FaceTest {
    private static final Check CHECK = new Check("FaceTest");
    private static final String[] FACE = {
        "push(long, long, long, long) int IllegalStateException",
        "copy(int) int IndexOutOfBoundsException IllegalStateException",
        "swap(int) int IndexOutOfBoundsException",
        "drop() int IllegalStateException",
        "depth() int",
        "limb(int, int) long IndexOutOfBoundsException",
        "width(int) int",
        "wrapping(int) int IllegalArgumentException IllegalStateException",
        "checked(int, boolean) int IllegalArgumentException IllegalStateException ArithmeticException",
        "nearest(int, boolean) int IllegalArgumentException IllegalStateException ArithmeticException",
        "fits(int, boolean) boolean",
        "key(char) boolean",
        "clear() int",
        "letter(int) int",
        "print(int, boolean) int IndexOutOfBoundsException",
        "parse(boolean) int IllegalArgumentException IllegalStateException",
        "encode(int) int IndexOutOfBoundsException",
        "decode() int IllegalArgumentException IllegalStateException",
    };

    public static void main(String[] args) {
        Class<?> face = WideWordStack.class;
        CHECK.due("the class's modifiers", Modifier.toString(face.getModifiers()), "public final");
        constructors(face);
        methods(face);
        for (Field field : face.getDeclaredFields()) {
            CHECK.due(field.getName() + " is private", Modifier.isPrivate(field.getModifiers()), true);
            boolean fixed = !Modifier.isStatic(field.getModifiers()) || Modifier.isFinal(field.getModifiers());
            CHECK.due(field.getName() + " is final if it is static", fixed, true);
        }
        CHECK.finish();
    }

    private static void constructors(Class<?> face) {
        Constructor<?>[] constructors = face.getDeclaredConstructors();
        CHECK.due("how many constructors", constructors.length, 1);
        CHECK.due("the constructor", constructors[0].toString(), "public WideWordStack()");
    }

    private static void methods(Class<?> face) {
        Set<String> open = new TreeSet<>();
        Set<String> openNames = new TreeSet<>();
        for (Method method : face.getDeclaredMethods()) {
            if (!Modifier.isPrivate(method.getModifiers())) {
                open.add(described(method));
                openNames.add(method.getName());
                CHECK.due(method.getName() + "'s modifiers", Modifier.toString(method.getModifiers()), "public");
            }
        }
        CHECK.due("the public methods", open, new TreeSet<>(Arrays.asList(FACE)));
        hiddenNames(face, openNames);
        for (Class<?> inside : face.getDeclaredClasses()) {
            CHECK.due(inside.getName() + " is static", Modifier.isStatic(inside.getModifiers()), true);
            hiddenNames(inside, openNames);
        }
    }

    private static void hiddenNames(Class<?> owner, Set<String> openNames) {
        for (Method method : owner.getDeclaredMethods()) {
            boolean hidden = owner != WideWordStack.class || Modifier.isPrivate(method.getModifiers());
            if (hidden) {
                CHECK.due(owner.getName() + "." + method.getName() + " has a public one's name",
                        openNames.contains(method.getName()), false);
            }
        }
    }

    private static String described(Method method) {
        StringBuilder text = new StringBuilder(method.getName()).append('(');
        for (Class<?> parameter : method.getParameterTypes()) {
            text.append(text.charAt(text.length() - 1) == '(' ? "" : ", ").append(parameter.getName());
        }
        text.append(") ").append(method.getReturnType().getName());
        for (Class<?> thrown : method.getExceptionTypes()) {
            text.append(' ').append(thrown.getSimpleName());
        }
        return text.toString();
    }
}
