import java.io.IOException;
import java.lang.reflect.Method;
import java.lang.reflect.Modifier;
import java.nio.file.Files;
import java.nio.file.Path;
import java.util.HashSet;
import java.util.List;
import java.util.Set;
import java.util.regex.Matcher;
import java.util.regex.Pattern;

/** Makes the calls of README.md's example, one after the other, and compares what each answers with what stands there. */
public final class UsageTest {
    private static final Pattern CALL = Pattern.compile("^night\\.(\\w+)\\((.*)\\); +// (-?\\d+): .+$");

    public static void main(String[] args) throws ReflectiveOperationException, IOException {
        List<String> lines = Files.readAllLines(Path.of("README.md"));
        TitleCaller night = new TitleCaller();
        Set<String> called = new HashSet<>();
        for (String line : lines) {
            Matcher call = CALL.matcher(line);
            if (call.matches()) {
                called.add(call.group(1));
                Check.due(line, answerOf(night, call.group(1), call.group(2)), Integer.parseInt(call.group(3)));
            } else {
                Check.holds("a call with its answer: " + line, !line.startsWith("night."));
            }
        }
        Check.holds("there are calls in README.md", called.size() > 10);
        everyCallIsNamed(String.join("\n", lines));
        Check.finish("UsageTest");
    }

    private static int answerOf(TitleCaller night, String name, String arguments) throws ReflectiveOperationException {
        Method method = methodOf(name);
        String[] texts = arguments.isEmpty() ? new String[0] : arguments.split(", ");
        Object[] values = new Object[texts.length];
        for (int index = 0; index < texts.length; index++) {
            boolean isLong = method.getParameterTypes()[index] == long.class;
            values[index] = isLong ? (Object) Long.decode(texts[index].replace("L", "")) : (Object) numberOf(texts[index]);
        }
        return (Integer) method.invoke(night, values);
    }

    private static Method methodOf(String name) {
        for (Method method : TitleCaller.class.getDeclaredMethods()) {
            if (method.getName().equals(name)) {
                return method;
            }
        }
        throw new IllegalArgumentException("no call " + name);
    }

    private static Integer numberOf(String text) throws ReflectiveOperationException {
        String constant = "TitleCaller.";
        return text.startsWith(constant) ? TitleCaller.class.getField(text.substring(constant.length())).getInt(null)
                : Integer.valueOf(text);
    }

    private static void everyCallIsNamed(String readme) {
        for (Method method : TitleCaller.class.getDeclaredMethods()) {
            if (Modifier.isPublic(method.getModifiers())) {
                Check.holds("README.md names " + method.getName(), readme.contains("`" + method.getName() + "`"));
            }
        }
    }
}
