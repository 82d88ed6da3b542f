import java.io.IOException;
import java.lang.reflect.Field;
import java.lang.reflect.Method;
import java.lang.reflect.Modifier;
import java.nio.file.Files;
import java.nio.file.Path;
import java.util.regex.Matcher;
import java.util.regex.Pattern;

/** README.md tells of every call and constant, and its example answers what stands behind each call. */
public final class ReadmeTest {
    private static final Pattern CALL = Pattern.compile("(?m)^table\\.(\\w+)\\((.*)\\); +// (-?\\d+)");
    private static final Due due = new Due();

    public static void main(String[] args) throws IOException, ReflectiveOperationException {
        String readme = Files.readString(Path.of("README.md"));
        exampleAnswersAsItSays(readme);
        everyMemberIsTold(readme);
        due.finish();
    }

    private static void exampleAnswersAsItSays(String readme) throws ReflectiveOperationException {
        SureMendings table = new SureMendings();
        int calls = 0;
        Matcher call = CALL.matcher(readme);
        while (call.find()) {
            calls++;
            int answer = answerOf(table, call.group(1), call.group(2));
            due.is("the example's " + call.group(1) + "(" + call.group(2) + ")", answer, Integer.parseInt(call.group(3)));
        }
        due.is("calls of the example that tell no answer", readme.split("\ntable\\.").length - 1 - calls, 0);
    }

    private static int answerOf(SureMendings table, String name, String written) throws ReflectiveOperationException {
        for (Method method : SureMendings.class.getMethods()) {
            if (method.getName().equals(name)) {
                return (int) method.invoke(table, arguments(method.getParameterTypes(), written));
            }
        }
        throw new NoSuchMethodException(name);
    }

    private static Object[] arguments(Class<?>[] types, String written) throws ReflectiveOperationException {
        String[] parts = written.isEmpty() ? new String[0] : written.split(", ");
        Object[] values = new Object[types.length];
        for (int index = 0; index < types.length; index++) {
            values[index] = argument(types[index], parts[index]);
        }
        return values;
    }

    private static Object argument(Class<?> type, String written) throws ReflectiveOperationException {
        if (type == boolean.class) {
            return Boolean.valueOf(written);
        }
        if (type == char.class) {
            return written.charAt(1);
        }
        String constant = "SureMendings.";
        if (written.startsWith(constant)) {
            return SureMendings.class.getField(written.substring(constant.length())).getInt(null);
        }
        return Integer.valueOf(written);
    }

    private static void everyMemberIsTold(String readme) throws IllegalAccessException {
        for (Method method : SureMendings.class.getDeclaredMethods()) {
            if (Modifier.isPublic(method.getModifiers())) {
                told(readme, "| `" + method.getName() + "(");
            }
        }
        for (Field constant : SureMendings.class.getFields()) {
            told(readme, "| `" + constant.getName() + "` (" + constant.getInt(null) + ")");
        }
    }

    private static void told(String readme, String start) {
        due.same("README.md tells of " + start, readme.contains("\n" + start) ? "yes" : "no", "yes");
    }
}
