import java.io.IOException;
import java.lang.reflect.InvocationTargetException;
import java.lang.reflect.Method;
import java.nio.file.Files;
import java.nio.file.Path;
import java.util.List;
import java.util.regex.Matcher;
import java.util.regex.Pattern;

/** The calls that README.md shows answer what it says beside them, and its table leaves no call out. */
public final class ReadmeTest {
    private static final Pattern CALL = Pattern.compile("vendor\\.(\\w+)\\(([^)]*)\\); +// (throws \\w+|[^ :]+).*");
    private static final int CALLS_SHOWN = 19;

    private ReadmeTest() {
    }

    public static void main(String[] args) throws IOException {
        List<String> lines = Files.readAllLines(Path.of("README.md"));
        callsAnswerWhatIsSaid(lines);
        tableLeavesNoCallOut(lines);
        Check.finish("ReadmeTest");
    }

    private static void callsAnswerWhatIsSaid(List<String> lines) {
        StampVendor vendor = new StampVendor();
        int shown = 0;
        for (String line : lines) {
            Matcher call = CALL.matcher(line);
            if (call.matches()) {
                shown++;
                Check.due(line, call.group(3), answer(vendor, call.group(1), call.group(2)));
            }
        }
        Check.due("the calls shown", CALLS_SHOWN, shown);
    }

    private static void tableLeavesNoCallOut(List<String> lines) {
        for (Method method : publicMethods()) {
            String name = "`" + method.getName() + "`";
            long rows = lines.stream().filter(line -> line.startsWith("|") && line.contains(name)).count();
            Check.due("rows of the table with " + name, 1L, rows);
        }
    }

    private static List<Method> publicMethods() {
        return List.of(StampVendor.class.getDeclaredMethods()).stream()
            .filter(method -> java.lang.reflect.Modifier.isPublic(method.getModifiers()))
            .toList();
    }

    private static String answer(StampVendor vendor, String name, String argumentText) {
        String[] texts = argumentText.isEmpty() ? new String[0] : argumentText.split(", ");
        Object[] arguments = new Object[texts.length];
        for (int i = 0; i < texts.length; i++) {
            arguments[i] = Integer.valueOf(texts[i]);
        }
        try {
            return String.valueOf(method(name).invoke(vendor, arguments));
        } catch (InvocationTargetException e) {
            return "throws " + e.getCause().getClass().getSimpleName();
        } catch (IllegalAccessException e) {
            throw new IllegalStateException(e);
        }
    }

    private static Method method(String name) {
        for (Method method : publicMethods()) {
            if (method.getName().equals(name)) {
                return method;
            }
        }
        throw new IllegalStateException("README.md shows a call that is none: " + name);
    }
}
