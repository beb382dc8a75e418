import java.lang.reflect.Constructor;
import java.lang.reflect.Field;
import java.lang.reflect.Method;
import java.lang.reflect.Modifier;
import java.util.Set;
import java.util.TreeSet;

/** The face as it stands in the document, and nothing beside it (rule 1 of the language). */
public final class FaceTest {
    private static final String INDEX = " IndexOutOfBoundsException";
    private static final String ARGUMENT = " IllegalArgumentException";
    private static final String STATE = " IllegalStateException";

    private static final String[] METHODS = {
        "int ask(int,int,int)" + INDEX + ARGUMENT,
        "int giveBack(int,int)" + INDEX + ARGUMENT,
        "int favour(int)" + INDEX,
        "int need(int,int)" + INDEX + ARGUMENT,
        "int pass()" + STATE,
        "int set(int)" + ARGUMENT,
        "int append(int)" + ARGUMENT + STATE,
        "int clearBuffer()",
        "int firstError()",
        "int run()" + ARGUMENT,
        "int keep(int)" + ARGUMENT,
        "int goBack(int)" + ARGUMENT + STATE,
        "int undo()" + STATE,
        "int at(int,int)" + INDEX + ARGUMENT,
        "int lodgerOf(int,int)" + INDEX + ARGUMENT,
        "int count(int)" + ARGUMENT,
        "int refused(int)" + ARGUMENT,
        "int ifAsked(int,int,int)" + INDEX + ARGUMENT,
        "int ifPutOut(int,int,int)" + INDEX + ARGUMENT,
        "int fewestBeds(int)" + ARGUMENT,
        "int longest(int,int)" + INDEX + ARGUMENT,
        "int poorest()",
        "double fullness()",
        "long digest()",
    };

    public static void main(String[] args) {
        Class<?> face = SevenAsks.class;
        Check.due("public and final", face.getModifiers(), Modifier.PUBLIC | Modifier.FINAL);
        methods(face);
        constructors(face);
        fields(face);
        for (Class<?> inside : face.getDeclaredClasses()) {
            int modifiers = inside.getModifiers();
            Check.holds(inside + " is static and not public", Modifier.isStatic(modifiers)
                    && !Modifier.isPublic(modifiers) && !Modifier.isProtected(modifiers));
            privateNames(inside);
        }
        privateNames(face);
        Check.end();
    }

    private static void methods(Class<?> face) {
        Set<String> got = new TreeSet<>();
        for (Method method : face.getDeclaredMethods()) {
            if (!Modifier.isPrivate(method.getModifiers())) {
                Check.due(method + " is public", method.getModifiers(), Modifier.PUBLIC);
                got.add(told(method));
            }
        }
        Check.holds("the methods are " + got, got.equals(new TreeSet<>(Set.of(METHODS))));
    }

    private static String told(Method method) {
        StringBuilder line = new StringBuilder();
        line.append(method.getReturnType()).append(' ').append(method.getName()).append('(');
        for (int i = 0; i < method.getParameterCount(); i++) {
            line.append(i == 0 ? "" : ",").append(method.getParameterTypes()[i]);
        }
        line.append(')');
        for (Class<?> thrown : method.getExceptionTypes()) {
            line.append(' ').append(thrown.getSimpleName());
        }
        return line.toString();
    }

    private static void constructors(Class<?> face) {
        Constructor<?>[] all = face.getDeclaredConstructors();
        Check.due("constructors", all.length, 1);
        Check.due("public", all[0].getModifiers(), Modifier.PUBLIC);
        Check.due("parameters", all[0].getParameterCount(), 0);
    }

    private static void fields(Class<?> face) {
        for (Field field : face.getDeclaredFields()) {
            int modifiers = field.getModifiers();
            boolean constant = field.getName().equals("NONE") && field.getType() == int.class
                    && modifiers == (Modifier.PUBLIC | Modifier.STATIC | Modifier.FINAL);
            Check.holds(field + " is private", constant || Modifier.isPrivate(modifiers));
            Check.holds(field + " is final, if it is static",
                    !Modifier.isStatic(modifiers) || Modifier.isFinal(modifiers));
        }
    }

    /** No private method bears the name of a public one. */
    private static void privateNames(Class<?> inside) {
        Set<String> names = new TreeSet<>();
        for (String method : METHODS) {
            names.add(method.substring(method.indexOf(' ') + 1, method.indexOf('(')));
        }
        for (Method method : inside.getDeclaredMethods()) {
            boolean own = inside == SevenAsks.class && Modifier.isPublic(method.getModifiers());
            Check.holds(method + " bears no public name", own || !names.contains(method.getName()));
        }
    }
}
