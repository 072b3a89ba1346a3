import java.lang.reflect.Constructor;
import java.lang.reflect.Field;
import java.lang.reflect.Method;
import java.lang.reflect.Modifier;
import java.util.Set;
import java.util.TreeSet;

/** The public face, and what LANGUAGE.md asks of the members (its rules 1 and 5). */
public final class FaceTest {
    private static final String ARGUMENT = " IllegalArgumentException";
    private static final String STATE = " IllegalStateException";
    private static final String MISSING = " NoSuchElementException";
    private static final String REFUSED = " UnsupportedOperationException";

    private static final Set<String> FACE = Set.of(
            "int file(int,int,int,int) throws" + ARGUMENT + STATE,
            "int descriptor(int,int,int) throws" + ARGUMENT + STATE,
            "void wipe(int) throws" + ARGUMENT,
            "int child(int) throws" + ARGUMENT + STATE,
            "boolean add(int,int,boolean) throws" + ARGUMENT + STATE,
            "void filter(int,int,long,long) throws" + ARGUMENT + STATE,
            "int lock(int) throws" + ARGUMENT + STATE + REFUSED,
            "int release(int) throws" + ARGUMENT + STATE,
            "int loader(int,boolean) throws" + ARGUMENT,
            "int look(int,int)",
            "int load(int,int) throws" + ARGUMENT + STATE + MISSING + REFUSED,
            "int info(int,int) throws" + MISSING,
            "boolean isA(int,int) throws" + MISSING,
            "int apply(int,int) throws" + ARGUMENT + STATE + MISSING + REFUSED,
            "int applied(int,int) throws" + ARGUMENT);

    public static void main(String[] args) {
        Class<?> face = ScopeTree.class;
        Check.yes("public", Modifier.isPublic(face.getModifiers()));
        Check.yes("final", Modifier.isFinal(face.getModifiers()));
        Set<String> found = new TreeSet<>();
        Set<String> names = new TreeSet<>();
        for (Method method : face.getDeclaredMethods()) {
            if (!Modifier.isPrivate(method.getModifiers())) {
                Check.yes("public: " + method, Modifier.isPublic(method.getModifiers()));
                found.add(told(method));
                names.add(method.getName());
            }
        }
        Check.yes("the methods are those of the document: " + found, found.equals(FACE));
        checkNoPrivateNamesake(face, names);
        for (Class<?> inside : face.getDeclaredClasses()) {
            checkNoPrivateNamesake(inside, names);
            Check.yes("static: " + inside, Modifier.isStatic(inside.getModifiers()));
        }
        Constructor<?>[] made = face.getDeclaredConstructors();
        Check.is("constructors", made.length, 1);
        Check.yes("public constructor", Modifier.isPublic(made[0].getModifiers()));
        Check.is("its parameters", made[0].getParameterCount(), 0);
        for (Field field : face.getDeclaredFields()) {
            Check.yes("private: " + field, Modifier.isPrivate(field.getModifiers()));
            if (Modifier.isStatic(field.getModifiers())) {
                Check.yes("final: " + field, Modifier.isFinal(field.getModifiers()));
            }
        }
        Check.end();
    }

    private static void checkNoPrivateNamesake(Class<?> type, Set<String> names) {
        for (Method method : type.getDeclaredMethods()) {
            if (Modifier.isPrivate(method.getModifiers())) {
                Check.no("namesake: " + method, names.contains(method.getName()));
            }
        }
    }

    private static String told(Method method) {
        StringBuilder text = new StringBuilder();
        text.append(method.getReturnType()).append(' ').append(method.getName()).append('(');
        for (Class<?> parameter : method.getParameterTypes()) {
            text.append(text.charAt(text.length() - 1) == '(' ? "" : ",").append(parameter);
        }
        text.append(')');
        for (Class<?> thrown : method.getExceptionTypes()) {
            text.append(text.charAt(text.length() - 1) == ')' ? " throws " : " ").append(thrown.getSimpleName());
        }
        return text.toString();
    }
}
