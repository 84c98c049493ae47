import java.lang.reflect.Constructor;
import java.lang.reflect.Field;
import java.lang.reflect.Method;
import java.lang.reflect.Modifier;
import java.util.Set;
import java.util.TreeSet;

/** The public face of the document, and the rules of the language that can be seen from outside. */
public final class FaceTest {
    private static final String[] FACE = {
        "int deck(int)",
        "int shuffle(int, int, int, int)",
        "int undo(int)",
        "boolean turn(int, int)",
        "int sequence()",
        "int step(int, int, int)",
        "int perform(int, int, int)",
        "int card(int, int)",
        "int find(int, int, boolean)",
        "int ofDeck(int, int)",
        "boolean keeps(int, int)",
        "double chance(int, int)",
        "double far(int)",
        "int alike(int, int)",
        "int ofSequence(int, int)",
        "int period(int, int)",
        "int many(int)",
        "int toTop(int, int)",
        "int goes(int, int, int, int)",
        "int best(int)",
        "int riffle(int)",
        "long digest()",
    };

    public static void main(String[] args) {
        Checks checks = new Checks();
        int type = ShuffleHall.class.getModifiers();
        checks.same("public", Modifier.isPublic(type), true);
        checks.same("final", Modifier.isFinal(type), true);
        methods(checks);
        constructors(checks);
        fields(checks, ShuffleHall.class);
        for (Class<?> inside : ShuffleHall.class.getDeclaredClasses()) {
            checks.same(inside + " is static", Modifier.isStatic(inside.getModifiers()), true);
            checks.same(inside + " is public", Modifier.isPublic(inside.getModifiers()), false);
            fields(checks, inside);
        }
        checks.end("FaceTest");
    }

    private static void methods(Checks checks) {
        Set<String> due = new TreeSet<>(Set.of(FACE));
        Set<String> got = new TreeSet<>();
        Set<String> publicNames = new TreeSet<>();
        for (Method method : ShuffleHall.class.getDeclaredMethods()) {
            if (!Modifier.isPrivate(method.getModifiers())) {
                got.add(shape(method));
                publicNames.add(method.getName());
            }
        }
        checks.same("methods that are not private", got, due);
        for (Method method : ShuffleHall.class.getDeclaredMethods()) {
            if (Modifier.isPrivate(method.getModifiers())) {
                checks.same(method + " bears a public name", publicNames.contains(method.getName()), false);
            }
        }
    }

    private static String shape(Method method) {
        StringBuilder text = new StringBuilder();
        text.append(method.getReturnType()).append(' ').append(method.getName()).append('(');
        for (int i = 0; i < method.getParameterCount(); i++) {
            text.append(i == 0 ? "" : ", ").append(method.getParameterTypes()[i]);
        }
        return text.append(')').toString();
    }

    private static void constructors(Checks checks) {
        Constructor<?>[] all = ShuffleHall.class.getDeclaredConstructors();
        checks.same("constructors", all.length, 1);
        checks.same("its parameters", all[0].getParameterCount(), 0);
        checks.same("it is public", Modifier.isPublic(all[0].getModifiers()), true);
    }

    private static void fields(Checks checks, Class<?> type) {
        for (Field field : type.getDeclaredFields()) {
            int modifiers = field.getModifiers();
            checks.same(field + " is private", Modifier.isPrivate(modifiers), true);
            checks.same(field + " is static and can change",
                    Modifier.isStatic(modifiers) && !Modifier.isFinal(modifiers), false);
        }
    }
}
