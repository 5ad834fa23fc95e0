import java.lang.reflect.Constructor;
import java.lang.reflect.Field;
import java.lang.reflect.Method;
import java.lang.reflect.Modifier;
import java.util.Arrays;
import java.util.Set;
import java.util.TreeSet;

/** The public face: the document's members, and no other that can be seen from outside. */
public final class FaceTest {
    private static final Check check = new Check("FaceTest");
    private static final String[] FACE = {
        "void tick(int)", "void router(int,int,int,int)", "void prefix(int,int,int,int)",
        "void asked(int,int,int)", "void told(int,int,int)", "int send(int,int)",
        "void smaller(int,int)", "int header(int,int)", "int come(int,int)", "int count(int)",
        "int own(int)", "int until(int)", "int neighbour(int)", "int sizeTo(int)",
        "int outKind(int)", "int outTo(int)", "int outX(int)",
    };

    public static void main(String[] args) {
        hasTheMethodsOfTheDocument();
        hidesAllElse();
        check.end();
    }

    private static String describe(Method method) {
        StringBuilder text = new StringBuilder(method.getReturnType() + " " + method.getName());
        char before = '(';
        for (Class<?> type : method.getParameterTypes()) {
            text.append(before).append(type);
            before = ',';
        }
        return text.append(')').toString();
    }

    private static void hasTheMethodsOfTheDocument() {
        Set<String> wanted = new TreeSet<>(Arrays.asList(FACE));
        Set<String> seen = new TreeSet<>();
        for (Method method : LinkHost.class.getDeclaredMethods()) {
            if (!Modifier.isPrivate(method.getModifiers())) {
                seen.add(describe(method));
                check.due(method + " is public", method.getModifiers(), Modifier.PUBLIC);
            }
        }
        check.due("face " + seen, seen.equals(wanted) ? 1 : 0, 1);
        check.due("public and final", LinkHost.class.getModifiers(),
                Modifier.PUBLIC | Modifier.FINAL);
    }

    private static void hidesAllElse() {
        Set<String> names = new TreeSet<>();
        for (String method : FACE) {
            names.add(method.substring(method.indexOf(' ') + 1, method.indexOf('(')));
        }
        for (Method method : LinkHost.class.getDeclaredMethods()) {
            boolean clashes = Modifier.isPrivate(method.getModifiers())
                    && names.contains(method.getName());
            check.due(method + " bears a public name", clashes ? 1 : 0, 0);
        }
        for (Field field : LinkHost.class.getDeclaredFields()) {
            int modifiers = field.getModifiers();
            check.due(field + " is private", Modifier.isPrivate(modifiers) ? 1 : 0, 1);
            boolean changing = Modifier.isStatic(modifiers) && !Modifier.isFinal(modifiers);
            check.due(field + " is static and can change", changing ? 1 : 0, 0);
        }
        Constructor<?>[] constructors = LinkHost.class.getDeclaredConstructors();
        check.due("constructors", constructors.length, 1);
        check.due("a public one", constructors[0].getModifiers(), Modifier.PUBLIC);
        for (Class<?> inside : LinkHost.class.getDeclaredClasses()) {
            check.due(inside + " is static", Modifier.isStatic(inside.getModifiers()) ? 1 : 0, 1);
        }
    }
}
