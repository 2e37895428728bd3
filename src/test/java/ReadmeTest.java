import java.io.IOException;
import java.lang.reflect.Method;
import java.lang.reflect.Modifier;
import java.nio.file.Files;
import java.nio.file.Path;
import java.util.HashMap;
import java.util.Map;
import java.util.regex.Matcher;
import java.util.regex.Pattern;

/** The example of README.md answers what README.md says, and every call of the face is explained there. */
public final class ReadmeTest {
    private static final Pattern EXAMPLE = Pattern.compile("(?s)```java\n(.*?)```");
    private static final Pattern CALL = Pattern.compile("(?:int (\\w+) = )?x\\.(\\w+)\\(([^)]*)\\); *// (true|false|-?\\d+)\\b.*");
    private static final Map<String, Method> FACE = new HashMap<>();
    private static final Map<String, Integer> NAMED = new HashMap<>();

    public static void main(String[] args) throws IOException, ReflectiveOperationException {
        String text = Files.readString(Path.of("README.md"));
        for (Method m : OneHandset.class.getDeclaredMethods()) {
            if (Modifier.isPublic(m.getModifiers())) {
                FACE.put(m.getName(), m);
                int takes = m.getParameterCount();
                String row = "\\| `" + m.getName() + "\\(" + "\\w+, ".repeat(Math.max(0, takes - 1)) + (takes > 0 ? "\\w+" : "") + "\\)` \\|";
                Due.yes("README.md explains " + m.getName(), Pattern.compile(row).matcher(text).find());
            }
        }
        Matcher example = EXAMPLE.matcher(text);
        Due.yes("README.md has an example", example.find());
        run(example.group(1));
        Due.finish("ReadmeTest");
    }

    private static void run(String example) throws ReflectiveOperationException {
        OneHandset x = new OneHandset();
        for (String line : example.split("\n")) {
            Matcher call = CALL.matcher(line);
            if (call.matches()) {
                long got = answer(x, call.group(2), call.group(3));
                Due.is("README.md: " + line, got, number(call.group(4)));
                if (call.group(1) != null) {
                    NAMED.put(call.group(1), (int) got);
                }
            } else {
                Due.yes("README.md: \"" + line + "\" tells an answer", line.isEmpty() || line.startsWith("OneHandset x"));
            }
        }
    }

    private static long answer(OneHandset x, String name, String words) throws ReflectiveOperationException {
        String[] given = words.isEmpty() ? new String[0] : words.split(", *");
        Object[] numbers = new Object[given.length];
        for (int i = 0; i < given.length; i++) {
            numbers[i] = NAMED.containsKey(given[i]) ? NAMED.get(given[i]) : Integer.valueOf(given[i]);
        }
        return number(FACE.get(name).invoke(x, numbers).toString());
    }

    private static long number(String answer) {
        return answer.equals("true") ? 1 : answer.equals("false") ? 0 : Long.parseLong(answer);
    }
}
