import java.lang.reflect.Constructor;
import java.lang.reflect.Field;
import java.lang.reflect.Method;
import java.lang.reflect.Modifier;
import java.util.Arrays;
import java.util.Set;
import java.util.TreeSet;

/** The public face: the document's members, and no other that can be seen from outside. */
public final class FaceTest {
    private static final Check check = new Check("FaceTest");
    private static final String ARGUMENT = " throws IllegalArgumentException";
    private static final String STATE = ARGUMENT + ", IllegalStateException";
    private static final String INDEX = " throws IndexOutOfBoundsException";
    private static final String[] FACE = {
        "public void tick(int)" + ARGUMENT,
        "public void router(int, int, int, int)" + STATE,
        "public void prefix(int, int, int, int)" + STATE,
        "public void asked(int, int, int)" + STATE,
        "public void told(int, int, int)" + STATE,
        "public int send(int, int)" + STATE,
        "public void smaller(int, int)" + STATE,
        "public int header(int, int)" + STATE,
        "public int come(int, int)" + STATE,
        "public int count(int)" + ARGUMENT,
        "public int own(int)" + INDEX,
        "public int until(int)" + INDEX,
        "public int neighbour(int)",
        "public int sizeTo(int)",
        "public int outKind(int)" + INDEX,
        "public int outTo(int)" + INDEX,
        "public int outX(int)" + INDEX,
    };

    public static void main(String[] args) {
        check.under("public final class LinkHost");
        hasTheMethodsOfTheDocument();
        hasOneConstructor();
        check.under("LANGUAGE.md, rules 1 and 5");
        noPrivateMethodBearsAPublicName();
        hidesItsFields(LinkHost.class);
        hidesTheClassesInside();
        check.end();
    }

    private static void appendNames(StringBuilder text, String before, Class<?>[] types) {
        String between = before;
        for (Class<?> type : types) {
            text.append(between).append(type.getSimpleName());
            between = ", ";
        }
    }

    private static String describe(Method method) {
        StringBuilder text = new StringBuilder(Modifier.toString(method.getModifiers()));
        text.append(' ').append(method.getReturnType()).append(' ').append(method.getName());
        appendNames(text, "(", method.getParameterTypes());
        text.append(')');
        appendNames(text, " throws ", method.getExceptionTypes());
        return text.toString();
    }

    private static void hasTheMethodsOfTheDocument() {
        Set<String> seen = new TreeSet<>();
        for (Method method : LinkHost.class.getDeclaredMethods()) {
            if (!Modifier.isPrivate(method.getModifiers())) {
                seen.add(describe(method));
            }
        }
        check.same("the face", seen.toString(), new TreeSet<>(Arrays.asList(FACE)).toString());
        check.same("its modifiers", Modifier.toString(LinkHost.class.getModifiers()),
                "public final");
        check.holds("no package", LinkHost.class.getPackageName().isEmpty());
        check.holds("no other face", LinkHost.class.getInterfaces().length == 0
                && LinkHost.class.getSuperclass() == Object.class);
    }

    private static void hasOneConstructor() {
        Constructor<?>[] constructors = LinkHost.class.getDeclaredConstructors();
        check.due("constructors", constructors.length, 1);
        check.same("it", constructors[0].toString(), "public LinkHost(int)");
    }

    private static void noPrivateMethodBearsAPublicName() {
        Set<String> names = new TreeSet<>();
        for (Method method : LinkHost.class.getMethods()) {
            names.add(method.getName());
        }
        noPrivateMethodBearsOneOf(names, LinkHost.class);
        for (Class<?> inside : LinkHost.class.getDeclaredClasses()) {
            noPrivateMethodBearsOneOf(names, inside);
        }
    }

    private static void noPrivateMethodBearsOneOf(Set<String> names, Class<?> type) {
        for (Method method : type.getDeclaredMethods()) {
            if (Modifier.isPrivate(method.getModifiers())) {
                check.holds(method + " has a name of its own", !names.contains(method.getName()));
            }
        }
    }

    private static void hidesItsFields(Class<?> type) {
        for (Field field : type.getDeclaredFields()) {
            int modifiers = field.getModifiers();
            check.holds(field + " is private", Modifier.isPrivate(modifiers));
            check.holds(field + " does not change or is of one object",
                    Modifier.isFinal(modifiers) || !Modifier.isStatic(modifiers));
        }
    }

    private static void hidesTheClassesInside() {
        for (Class<?> inside : LinkHost.class.getDeclaredClasses()) {
            int modifiers = inside.getModifiers();
            check.holds(inside + " is static", Modifier.isStatic(modifiers));
            check.holds(inside + " is hidden", !Modifier.isPublic(modifiers)
                    && !Modifier.isProtected(modifiers));
            hidesItsFields(inside);
        }
    }
}
