import java.io.IOException;
import java.lang.reflect.Method;
import java.lang.reflect.Modifier;
import java.nio.file.Files;
import java.nio.file.Path;
import java.util.regex.Matcher;
import java.util.regex.Pattern;

/** The README's example answers what the README says, and each call is named there. */
public final class ReadmeTest {
    private static final Pattern TEXT = Pattern.compile("String text = \"([^\"]*)\";");
    private static final Pattern CALL = Pattern.compile("(?m)^x\\.(\\w+)\\(([-0-9, ]*)\\);\\s*// (-?[0-9]+)\\b");
    private static final Pattern ANY_CALL = Pattern.compile("(?m)^x\\.");

    public static void main(String[] args) throws IOException, ReflectiveOperationException {
        String page = Files.readString(Path.of("README.md"));
        example(page);
        for (Method method : LastWord.class.getDeclaredMethods()) {
            if (Modifier.isPublic(method.getModifiers())) {
                String name = method.getName();
                Check.due(name + " is named", 1, page.contains("`" + name + "`") ? 1 : 0);
            }
        }
        Check.due(".ci/run is named", 1, page.contains(".ci/run") ? 1 : 0);
        tests(page);
        Check.end();
    }

    private static void example(String page) throws ReflectiveOperationException {
        Matcher text = TEXT.matcher(page);
        Check.due("the example has a text", 1, text.find() ? 1 : 0);
        LastWord x = new LastWord();
        Check.type(x, text.group(1));
        Matcher call = CALL.matcher(page);
        int calls = 0;
        while (call.find()) {
            calls++;
            long got = answer(x, call.group(1), call.group(2));
            Check.due("line " + calls + ": " + call.group(1) + "(" + call.group(2) + ")",
                Long.parseLong(call.group(3)), got);
        }
        Check.due("calls of the example that have an answer", ANY_CALL.matcher(page).results().count(), calls);
    }

    private static long answer(LastWord x, String name, String told) throws ReflectiveOperationException {
        String[] words = told.isBlank() ? new String[0] : told.split(", *");
        Class<?>[] types = new Class<?>[words.length];
        Object[] numbers = new Object[words.length];
        for (int i = 0; i < words.length; i++) {
            types[i] = int.class;
            numbers[i] = Integer.valueOf(words[i].trim());
        }
        return ((Number) LastWord.class.getMethod(name, types).invoke(x, numbers)).longValue();
    }

    private static void tests(String page) throws IOException {
        try (var files = Files.list(Path.of("src/test/java"))) {
            for (Path file : files.filter(f -> f.toString().endsWith("Test.java")).sorted().toList()) {
                String name = file.getFileName().toString().replace(".java", "");
                Check.due(name + " is told of", 1, page.contains("| `" + name + "` |") ? 1 : 0);
            }
        }
    }
}
