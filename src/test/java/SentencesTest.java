import java.io.IOException;
import java.lang.reflect.Method;
import java.nio.file.Files;
import java.nio.file.Path;
import java.util.regex.Matcher;
import java.util.regex.Pattern;

/**
 * Every place of the document that names a boundary is within words that a test of its own bears, and the words that
 * tests bear stand in the document.
 */
public final class SentencesTest {
    private static final Class<?>[] TESTS = {
        EdgesOfTermsTest.class, RefusedCallsTest.class, EdgesOfFlashesTest.class, EdgesOfKeysTest.class, EdgesOfBoxesTest.class,
    };
    private static final Pattern BOUNDARY = Pattern.compile(
        "Refused|NONE|NoSuchElementException|false if|none such|[Nn]o such|at least|at most|at first|more than|below|above"
            + "|beyond|too many|too early|others|another number|another what|another CODE|not empty|\\(empty|never|unlike"
            + "|or more|\\d \\.\\. |-2|stays|no KEYS|without KEYS|by 16|left off|no FAULT|none behind|the nearer one|if alike");
    private static final int PROMISES = 27;

    public static void main(String[] args) throws IOException {
        Path doc = Path.of(args.length > 1 ? args[1] : "../shared/DOC.md");
        if (!Files.isReadable(doc)) {
            System.out.println("SentencesTest: there is no " + doc + " to compare with");
            return;
        }
        String text = Files.readString(doc);
        for (int promise = 0; promise <= PROMISES; promise++) {
            compare(promise, part(text, promise));
        }
        Due.finish("SentencesTest");
    }

    /** The words of a promise, or (0) those ahead of all promises, but for the public face. */
    private static String part(String text, int promise) {
        String title = promise == 0 ? "(?s)(.*?)\n## Promise 1:" : "(?s)\n## Promise " + promise + ":[^\n]*\n(.*?)(\n## |$)";
        Matcher found = Pattern.compile(title).matcher(text);
        Due.yes("promise " + promise + " is in the document", found.find());
        return found.group(1).replaceAll("(?s)```java.*?```", " ").replaceAll("`[^`\n]*`:", " ").replaceAll("\\s+", " ");
    }

    private static void compare(int promise, String part) {
        boolean[] borne = new boolean[part.length()];
        for (Class<?> tests : TESTS) {
            for (Method m : Edges.of(tests)) {
                Says words = m.getAnnotation(Says.class);
                if (words.in() == promise) {
                    int at = part.indexOf(words.is());
                    Due.yes(m.getName() + " bears words of promise " + promise, at >= 0);
                    mark(borne, at, words.is().length());
                }
            }
        }
        Matcher boundary = BOUNDARY.matcher(part);
        while (boundary.find()) {
            int from = Math.max(0, boundary.start() - 40);
            int to = Math.min(part.length(), boundary.end() + 40);
            Due.yes("promise " + promise + ": a test bears \"" + part.substring(from, to) + "\"", borne[boundary.start()]);
        }
    }

    private static void mark(boolean[] borne, int at, int length) {
        for (int i = at; at >= 0 && i < at + length; i++) {
            borne[i] = true;
        }
    }
}
