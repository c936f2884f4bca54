import java.io.IOException;
import java.lang.reflect.InvocationTargetException;
import java.lang.reflect.Method;
import java.nio.file.DirectoryStream;
import java.nio.file.Files;
import java.nio.file.Path;
import java.util.regex.Matcher;
import java.util.regex.Pattern;

/** That README.md tells what is so: the answers behind its calls, and that it leaves no call, error code or test out. */
public final class ReadmeTest {
    private static final Pattern CALL = Pattern.compile("x\\.(\\w+)\\(([-0-9, ]*)\\);\\s*// (-?[0-9]+)(?:: .+)?");
    private static final Pattern TYPED = Pattern.compile("for \\(char sign : \"(.*)\"\\.toCharArray\\(\\)\\) \\{");

    public static void main(String[] args) throws IOException, ReflectiveOperationException {
        String page = Files.readString(Path.of("README.md"));
        String[] parts = page.split("```");
        int calls = 0;
        for (int k = 1; k < parts.length; k += 2) {
            calls += parts[k].startsWith("java\n") ? example(parts[k].substring(5)) : 0;
        }
        Check.due("calls in examples", calls >= 20 ? 1 : 0, 1);
        names(page);
        Check.end();
    }

    /** Makes the calls of an example one by one on an object of its own; answers how many. */
    private static int example(String lines) throws ReflectiveOperationException {
        LeakingClocks x = new LeakingClocks();
        int calls = 0;
        for (String line : lines.split("\n")) {
            Matcher call = CALL.matcher(line.strip());
            Matcher typed = TYPED.matcher(line.strip());
            if (call.matches()) {
                Check.due(line, answer(x, call.group(1), call.group(2)), Integer.parseInt(call.group(3)));
                calls++;
            } else if (typed.matches()) {
                Check.type(x, typed.group(1));
            } else {
                boolean known = line.isBlank() || line.equals("LeakingClocks x = new LeakingClocks();")
                    || line.equals("    x.type(sign);") || line.equals("}");
                Check.due("is read: " + line, known ? 1 : 0, 1);
            }
        }
        return calls;
    }

    private static int answer(LeakingClocks x, String name, String list) throws ReflectiveOperationException {
        String[] texts = list.isEmpty() ? new String[0] : list.split(", ");
        Class<?>[] types = new Class<?>[texts.length];
        Object[] numbers = new Object[texts.length];
        for (int k = 0; k < texts.length; k++) {
            types[k] = int.class;
            numbers[k] = Integer.parseInt(texts[k]);
        }
        try {
            return (Integer) LeakingClocks.class.getMethod(name, types).invoke(x, numbers);
        } catch (InvocationTargetException thrown) {
            Check.due(name + " threw " + thrown.getCause(), 1, 0);
            return 0;
        }
    }

    private static void names(String page) throws IOException {
        for (Method method : LeakingClocks.class.getDeclaredMethods()) {
            if (java.lang.reflect.Modifier.isPublic(method.getModifiers())) {
                Check.due("names " + method.getName(), page.contains("`" + method.getName() + "(") ? 1 : 0, 1);
            }
        }
        for (String code : new String[] {"INVALID_ARGUMENT", "NOT_POSSIBLE", "LIMIT_REACHED", "NOT_FOUND"}) {
            Check.due("names " + code, page.contains("`" + code + "`") ? 1 : 0, 1);
        }
        try (DirectoryStream<Path> tests = Files.newDirectoryStream(Path.of("src/test/java"), "*Test.java")) {
            for (Path test : tests) {
                String name = test.getFileName().toString().replace(".java", "");
                Check.due("names " + name, page.contains("| `" + name + "` |") ? 1 : 0, 1);
            }
        }
    }
}
