import java.io.IOException;
import java.lang.reflect.Method;
import java.nio.file.Files;
import java.nio.file.Path;
import java.util.List;
import java.util.regex.Matcher;
import java.util.regex.Pattern;

/** README.md is followed: each call of its examples answers what stands behind it, and no call of the face is left out. */
public final class ReadmeTest {
    private static final Pattern CALL = Pattern.compile("x\\.(\\w+)\\((.*)\\); +// (-?\\w+).*");

    private static final Check check = new Check();

    public static void main(String[] args) throws IOException, ReflectiveOperationException {
        List<String> lines = Files.readAllLines(Path.of("README.md"));
        examples(lines);
        allCalls(String.join("\n", lines));
        check.close("ReadmeTest");
    }

    private static void examples(List<String> lines) throws ReflectiveOperationException {
        LeftGlove x = new LeftGlove();
        boolean isCode = false;
        int calls = 0;
        for (String line : lines) {
            Matcher call = CALL.matcher(line);
            if (line.startsWith("```")) {
                isCode = line.equals("```java");
            } else if (isCode && call.matches()) {
                calls++;
                check.same("README.md, " + line, answer(x, call.group(1), call.group(2)), call.group(3));
            } else if (isCode) {
                // Else an example could stand there that this test passes over.
                check.due("README.md, a line that is no call: " + line, isOtherLine(line), true);
            }
        }
        check.due("README.md has examples", calls > 20, true);
    }

    private static boolean isOtherLine(String line) {
        return line.isBlank() || line.startsWith("// ") || line.equals("LeftGlove x = new LeftGlove();");
    }

    private static String answer(LeftGlove x, String name, String list) throws ReflectiveOperationException {
        String[] told = list.isEmpty() ? new String[0] : list.split(", ");
        for (Method method : LeftGlove.class.getMethods()) {
            if (method.getName().equals(name) && method.getParameterCount() == told.length) {
                Object[] values = new Object[told.length];
                for (int i = 0; i < told.length; i++) {
                    values[i] = value(told[i]);
                }
                return String.valueOf(method.invoke(x, values));
            }
        }
        return "no such call";
    }

    private static Object value(String told) {
        if (told.equals("true") || told.equals("false")) {
            return Boolean.valueOf(told);
        }
        return told.equals("LeftGlove.NONE") ? Integer.valueOf(LeftGlove.NONE) : Integer.decode(told);
    }

    private static void allCalls(String text) {
        for (Method method : LeftGlove.class.getDeclaredMethods()) {
            if (java.lang.reflect.Modifier.isPublic(method.getModifiers())) {
                boolean isNamed = Pattern.compile("`" + method.getName() + "[`(]").matcher(text).find();
                check.due("README.md tells of " + method.getName(), isNamed, true);
            }
        }
    }
}
