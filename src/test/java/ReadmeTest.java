import java.io.IOException;
import java.lang.reflect.Method;
import java.nio.file.DirectoryStream;
import java.nio.file.Files;
import java.nio.file.Path;
import java.util.regex.Matcher;
import java.util.regex.Pattern;

/** What README.md shows: the answers of its calls, every call of the face, and every test. */
public final class ReadmeTest {
    private static final Pattern CALL = Pattern.compile("(?m)^x\\.(\\w+)\\(([^)]*)\\);(?: +// (-?\\w+).*)?$");

    private ReadmeTest() {
    }

    public static void main(String[] args) throws IOException, ReflectiveOperationException {
        String page = Files.readString(Path.of("README.md"));
        answers(page);
        names(page);
        tests(page);
        Check.finish();
    }

    private static void answers(String page) throws ReflectiveOperationException {
        NearEnough x = new NearEnough();
        Matcher call = CALL.matcher(page);
        int shown = 0;
        while (call.find()) {
            String got = String.valueOf(method(call.group(1)).invoke(x, arguments(call.group(2))));
            Check.due(call.group() + " answered " + got, got.equals(call.group(3)), true);
            shown++;
        }
        Check.due("calls shown, each with its answer", shown >= 10, true);
    }

    private static Method method(String name) throws NoSuchMethodException {
        for (Method method : NearEnough.class.getDeclaredMethods()) {
            if (method.getName().equals(name)) {
                return method;
            }
        }
        throw new NoSuchMethodException(name);
    }

    private static Object[] arguments(String list) {
        String[] parts = list.isEmpty() ? new String[0] : list.split(", ");
        Object[] arguments = new Object[parts.length];
        for (int i = 0; i < parts.length; i++) {
            boolean truth = parts[i].equals("true") || parts[i].equals("false");
            arguments[i] = truth ? (Object) Boolean.valueOf(parts[i]) : (Object) Integer.valueOf(parts[i]);
        }
        return arguments;
    }

    private static void names(String page) {
        for (Method method : NearEnough.class.getMethods()) {
            if (method.getDeclaringClass() == NearEnough.class) {
                boolean named = Pattern.compile("`" + method.getName() + "[`(]").matcher(page).find();
                Check.due("README.md names " + method.getName(), named, true);
            }
        }
    }

    private static void tests(String page) throws IOException {
        try (DirectoryStream<Path> files = Files.newDirectoryStream(Path.of("src/test/java"), "*Test.java")) {
            for (Path file : files) {
                String name = file.getFileName().toString().replace(".java", "");
                Check.due("README.md tells of " + name, page.contains("| " + name + " |"), true);
            }
        }
    }
}
