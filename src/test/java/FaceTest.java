import java.lang.reflect.Constructor;
import java.lang.reflect.Field;
import java.lang.reflect.Method;
import java.lang.reflect.Modifier;
import java.util.Arrays;
import java.util.Set;
import java.util.TreeSet;
import java.util.stream.Collectors;

/** The public face of the document, and the rules of the language that can be seen from outside. */
public final class FaceTest {
    private static final String[] FACE = {
        "public int deck(int) throws IllegalArgumentException, IllegalStateException",
        "public int shuffle(int, int, int, int) throws IndexOutOfBoundsException, IllegalArgumentException",
        "public int undo(int) throws IndexOutOfBoundsException",
        "public boolean turn(int, int) throws IndexOutOfBoundsException",
        "public int sequence() throws IllegalStateException",
        "public int step(int, int, int)"
                + " throws IndexOutOfBoundsException, IllegalArgumentException, IllegalStateException",
        "public int perform(int, int, int)"
                + " throws IndexOutOfBoundsException, IllegalArgumentException, IllegalStateException",
        "public int card(int, int) throws IndexOutOfBoundsException",
        "public int find(int, int, boolean) throws IndexOutOfBoundsException",
        "public int ofDeck(int, int) throws IndexOutOfBoundsException, IllegalArgumentException",
        "public boolean keeps(int, int) throws IndexOutOfBoundsException, IllegalArgumentException",
        "public double chance(int, int) throws IndexOutOfBoundsException, IllegalArgumentException",
        "public double far(int) throws IndexOutOfBoundsException",
        "public int alike(int, int) throws IndexOutOfBoundsException",
        "public int ofSequence(int, int) throws IndexOutOfBoundsException, IllegalArgumentException",
        "public int period(int, int) throws IndexOutOfBoundsException, IllegalArgumentException",
        "public int many(int) throws IllegalArgumentException",
        "public int toTop(int, int) throws IndexOutOfBoundsException",
        "public int goes(int, int, int, int) throws IndexOutOfBoundsException, IllegalArgumentException",
        "public int best(int) throws IndexOutOfBoundsException",
        "public int riffle(int) throws IndexOutOfBoundsException",
        "public long digest()",
    };

    public static void main(String[] args) {
        Checks checks = new Checks();
        int type = ShuffleHall.class.getModifiers();
        checks.same("public", Modifier.isPublic(type), true);
        checks.same("final", Modifier.isFinal(type), true);
        methods(checks);
        constructors(checks);
        fields(checks, ShuffleHall.class);
        for (Class<?> inside : ShuffleHall.class.getDeclaredClasses()) {
            checks.same(inside + " is static", Modifier.isStatic(inside.getModifiers()), true);
            checks.same(inside + " is public", Modifier.isPublic(inside.getModifiers()), false);
            fields(checks, inside);
        }
        checks.end("FaceTest");
    }

    private static void methods(Checks checks) {
        Set<String> due = new TreeSet<>(Set.of(FACE));
        Set<String> got = new TreeSet<>();
        Set<String> publicNames = new TreeSet<>();
        for (Method method : ShuffleHall.class.getDeclaredMethods()) {
            if (!Modifier.isPrivate(method.getModifiers())) {
                got.add(shape(method));
                publicNames.add(method.getName());
            }
        }
        checks.same("methods that are not private", got, due);
        for (Method method : ShuffleHall.class.getDeclaredMethods()) {
            if (Modifier.isPrivate(method.getModifiers())) {
                checks.same(method + " bears a public name", publicNames.contains(method.getName()), false);
            }
        }
    }

    /** The method as the document writes it, without the names of its parameters. */
    private static String shape(Method method) {
        StringBuilder text = new StringBuilder();
        text.append(Modifier.toString(method.getModifiers())).append(' ');
        text.append(method.getReturnType()).append(' ').append(method.getName());
        text.append('(').append(names(method.getParameterTypes())).append(')');
        if (method.getExceptionTypes().length > 0) {
            text.append(" throws ").append(names(method.getExceptionTypes()));
        }
        return text.toString();
    }

    private static String names(Class<?>[] types) {
        return Arrays.stream(types).map(Class::getSimpleName).collect(Collectors.joining(", "));
    }

    private static void constructors(Checks checks) {
        Constructor<?>[] all = ShuffleHall.class.getDeclaredConstructors();
        checks.same("constructors", all.length, 1);
        checks.same("its parameters", all[0].getParameterCount(), 0);
        checks.same("it is public", Modifier.isPublic(all[0].getModifiers()), true);
    }

    private static void fields(Checks checks, Class<?> type) {
        for (Field field : type.getDeclaredFields()) {
            int modifiers = field.getModifiers();
            checks.same(field + " is private", Modifier.isPrivate(modifiers), true);
            checks.same(field + " is static and can change",
                    Modifier.isStatic(modifiers) && !Modifier.isFinal(modifiers), false);
        }
    }
}
