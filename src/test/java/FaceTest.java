import java.lang.reflect.Constructor;
import java.lang.reflect.Field;
import java.lang.reflect.Method;
import java.lang.reflect.Modifier;
import java.util.Arrays;
import java.util.Set;
import java.util.TreeSet;

/** The public face is the document's, no more and no less. */
public final class FaceTest {
    private static final Set<String> METHODS = Set.of(
        "int add(int,char,int,int)", "int readRows()", "int remove(int)", "int mend(int)", "int mendAll(int)",
        "int prefer(boolean)", "int type(char)", "int clearText()", "int undo()", "int keep()", "int restore()",
        "int row(int,int)", "int key(int,int)", "int value(char,int)", "int way(int,int,int)", "int kept(int,int)",
        "int sum(int)", "int bestMended(int,int,int)", "int count(int)");
    private static final Set<String> CONSTANTS = Set.of(
        "UNKNOWN=-1", "BAD_VALUE=-2", "FULL=-3", "NOT_POSSIBLE=-4", "NONE=-5");

    public static void main(String[] args) throws IllegalAccessException {
        Due due = new Due();
        due.same("methods", publicMethods().toString(), new TreeSet<>(METHODS).toString());
        due.same("constants", constants().toString(), new TreeSet<>(CONSTANTS).toString());
        due.same("constructors", Arrays.toString(SureMendings.class.getConstructors()), "[public SureMendings()]");
        due.same("class", Modifier.toString(SureMendings.class.getModifiers()), "public final");
        due.same("members beside the face", otherMembers().toString(), "[]");
        due.finish();
    }

    private static Set<String> publicMethods() {
        Set<String> found = new TreeSet<>();
        for (Method method : SureMendings.class.getDeclaredMethods()) {
            if (Modifier.isPublic(method.getModifiers())) {
                found.add(signature(method));
            }
        }
        return found;
    }

    private static String signature(Method method) {
        String types = String.join(",", Arrays.stream(method.getParameterTypes()).map(Class::getName).toList());
        return method.getReturnType().getName() + " " + method.getName() + "(" + types + ")";
    }

    private static Set<String> constants() throws IllegalAccessException {
        Set<String> found = new TreeSet<>();
        for (Field field : SureMendings.class.getFields()) {
            if (Modifier.isStatic(field.getModifiers()) && Modifier.isFinal(field.getModifiers())) {
                found.add(field.getName() + "=" + field.getInt(null));
            }
        }
        return found;
    }

    /** Members that are neither public nor private, and private methods with the name of a public one. */
    private static Set<String> otherMembers() {
        Set<String> found = new TreeSet<>();
        Set<String> publicNames = new TreeSet<>();
        for (Method method : SureMendings.class.getMethods()) {
            publicNames.add(method.getName());
        }
        for (Method method : SureMendings.class.getDeclaredMethods()) {
            boolean hidden = Modifier.isPrivate(method.getModifiers());
            if (!method.isSynthetic() && !Modifier.isPublic(method.getModifiers()) && !hidden) {
                found.add(method.toString());
            }
            if (hidden && publicNames.contains(method.getName())) {
                found.add(method.toString());
            }
        }
        for (Field field : SureMendings.class.getDeclaredFields()) {
            if (!field.isSynthetic() && (field.getModifiers() & (Modifier.PUBLIC | Modifier.PRIVATE)) == 0) {
                found.add(field.toString());
            }
        }
        for (Constructor<?> constructor : SureMendings.class.getDeclaredConstructors()) {
            if (!Modifier.isPublic(constructor.getModifiers())) {
                found.add(constructor.toString());
            }
        }
        return found;
    }
}
