import java.io.IOException;
import java.lang.reflect.Method;
import java.lang.reflect.Modifier;
import java.nio.file.Files;
import java.nio.file.Path;
import java.util.regex.Matcher;
import java.util.regex.Pattern;

/** The example of README.md: each of its calls answers what stands behind it; and README.md names every call. */
public final class ReadmeTest {
    private static final Path README = Path.of("README.md");
    private static final Pattern EXAMPLE = Pattern.compile("(?s)```java\n(.*?)```");
    private static final Pattern CALL = Pattern.compile("x\\.(\\w+)\\(([-\\d, ]*)\\); +// (-?\\d+)(: .*)?");
    private static final Pattern TEXT = Pattern.compile("text\\(x, (\\d), \"([^\"]*)\"\\);");

    private static ChainLeap x = new ChainLeap();
    private static int calls = 0;

    public static void main(String[] args) throws IOException {
        String readme = Files.readString(README);
        Matcher examples = EXAMPLE.matcher(readme);
        while (examples.find()) {
            for (String line : examples.group(1).split("\n")) {
                play(line);
            }
        }
        Due.same("README.md has an example", calls > 0 ? 1 : 0, 1);
        for (Method method : ChainLeap.class.getDeclaredMethods()) {
            if (Modifier.isPublic(method.getModifiers())) {
                Due.same("README.md names " + method.getName(), readme.contains("`" + method.getName() + "`") ? 1 : 0, 1);
            }
        }
        Due.end();
    }

    private static void play(String line) {
        Matcher call = CALL.matcher(line);
        Matcher text = TEXT.matcher(line);
        if (call.matches()) {
            String got = Due.answer(x, call.group(1), call.group(2));
            Due.same("README.md: " + line + " (answered " + got + ")", got.equals(call.group(3)) ? 1 : 0, 1);
            calls++;
        } else if (text.matches()) {
            Due.text(x, Integer.parseInt(text.group(1)), text.group(2));
        } else if (line.equals("ChainLeap x = new ChainLeap();")) {
            x = new ChainLeap();
        } else {
            Due.same("README.md can be read: " + line, line.isEmpty() || line.startsWith("// ") ? 1 : 0, 1);
        }
    }
}
