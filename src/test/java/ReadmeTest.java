import java.io.IOException;
import java.lang.reflect.InvocationTargetException;
import java.lang.reflect.Method;
import java.lang.reflect.Modifier;
import java.nio.file.Files;
import java.nio.file.Path;
import java.util.Arrays;
import java.util.regex.Matcher;
import java.util.regex.Pattern;

/** The example of README.md, call by call: what stands behind a call there is what it answers. */
public final class ReadmeTest {
    private static final Pattern CALL = Pattern.compile(" {4}signal\\.(\\w+)\\((.*?)\\);(?: +// (.+))?");
    private static final int LEAST_CALLS = 25;

    public static void main(String[] args) throws IOException, IllegalAccessException {
        String readme = Files.readString(Path.of("README.md"));
        LiftingSignal signal = new LiftingSignal();
        int calls = 0;
        for (String line : readme.split("\n")) {
            Matcher call = CALL.matcher(line);
            if (call.matches()) {
                String due = call.group(3) == null ? "nothing" : call.group(3);
                Check.same("README.md, " + line.trim(), answer(signal, call.group(1), call.group(2)), due);
                calls++;
            } else if (line.startsWith("    signal.")) {
                Check.fail("README.md has a call of another form: " + line);
            }
        }
        Check.same("README.md shows calls enough", calls >= LEAST_CALLS, true);
        everyMethodIsNamed(readme);
        Check.end();
    }

    private static String answer(LiftingSignal signal, String name, String arguments) throws IllegalAccessException {
        Object[] given = Arrays.stream(arguments.split(", ")).filter(a -> !a.isEmpty()).map(ReadmeTest::value).toArray();
        Method method = method(name);
        try {
            Object got = method.invoke(signal, given);
            return method.getReturnType() == void.class ? "nothing" : String.valueOf(got);
        } catch (InvocationTargetException thrown) {
            return "throws " + thrown.getCause().getClass().getSimpleName();
        }
    }

    private static Object value(String argument) {
        if (argument.equals("true") || argument.equals("false")) {
            return Boolean.valueOf(argument);
        }
        return argument.startsWith("0x") ? Integer.parseUnsignedInt(argument.substring(2), 16) : Integer.valueOf(argument);
    }

    private static Method method(String name) {
        for (Method method : LiftingSignal.class.getMethods()) {
            if (method.getName().equals(name)) {
                return method;
            }
        }
        throw new IllegalStateException("README.md calls " + name + ", which is no method of the class");
    }

    private static void everyMethodIsNamed(String readme) {
        for (Method method : LiftingSignal.class.getDeclaredMethods()) {
            boolean isNamed = readme.contains("`" + method.getName() + "`");
            if (Modifier.isPublic(method.getModifiers()) && !isNamed) {
                Check.fail("README.md does not name " + method.getName());
            }
        }
    }
}
