import java.io.IOException;
import java.lang.reflect.InvocationTargetException;
import java.lang.reflect.Method;
import java.lang.reflect.Modifier;
import java.nio.file.Files;
import java.nio.file.Path;
import java.util.HashMap;
import java.util.List;
import java.util.Map;
import java.util.regex.Matcher;
import java.util.regex.Pattern;
import java.util.stream.Collectors;
import java.util.stream.Stream;

/**
 * README.md: each line of its example answers the number behind it, and the page names each call,
 * each constant and each test. It is looked for in the folder in which the tests are run.
 */
public final class ReadmeTest {
    private static final Path README = Path.of("README.md");
    private static final Path TESTS = Path.of("src/test/java");
    private static final String MADE = "InterlockBoard board = new InterlockBoard();";
    private static final Pattern CALL = Pattern.compile(
            "(?:int (?<name>\\w+) = )?board\\.(?<call>\\w+)\\((?<arguments>[^()]*)\\); +// (?<due>-?\\d+)\\b.*");
    private static final Pattern TYPE = Pattern.compile("type\\(\"(?<text>[^\"]*)\"\\); +// (?<due>\\d+)\\b.*");

    private final InterlockBoard board = new InterlockBoard();
    private final Map<String, Integer> named = new HashMap<>();

    public static void main(String[] arguments) throws IOException, ReflectiveOperationException {
        String page = Files.readString(README);
        int from = page.indexOf(MADE);
        int end = page.indexOf("```", from + 1);
        if (from < 0 || end < 0) {
            Checks.fault("README.md has no example");
        } else {
            new ReadmeTest().follow(page.substring(from + MADE.length(), end).lines().toList());
        }
        callsAndConstants(page);
        tests(page);
        Checks.end("ReadmeTest");
    }

    private void follow(List<String> example) throws ReflectiveOperationException {
        for (String line : example) {
            if (!line.isBlank() && !line.startsWith("//")) {
                int wrongAhead = Checks.wrongSoFar();
                followLine(line);
                if (Checks.wrongSoFar() > wrongAhead) {
                    System.out.println("    not as README.md says: " + line);
                }
            }
        }
    }

    private void followLine(String line) throws ReflectiveOperationException {
        Matcher typed = TYPE.matcher(line);
        Matcher called = CALL.matcher(line);
        if (typed.matches()) {
            Checks.due(Checks.type(board, typed.group("text")), Integer.parseInt(typed.group("due")));
        } else if (called.matches()) {
            int answer = call(called.group("call"), called.group("arguments"));
            Checks.due(answer, Integer.parseInt(called.group("due")));
            if (called.group("name") != null) {
                named.put(called.group("name"), answer);
            }
        } else {
            Checks.fault("a line that is no call with its answer: " + line);
        }
    }

    private int call(String name, String arguments) throws ReflectiveOperationException {
        String[] words = arguments.isEmpty() ? new String[0] : arguments.split(", ");
        Object[] values = new Object[words.length];
        Class<?>[] types = new Class<?>[words.length];
        for (int at = 0; at < words.length; at++) {
            values[at] = valueOf(words[at]);
            types[at] = int.class;
        }
        try {
            return (int) InterlockBoard.class.getMethod(name, types).invoke(board, values);
        } catch (InvocationTargetException thrown) {
            throw new IllegalStateException(name + "(" + arguments + ") has thrown", thrown);
        }
    }

    private int valueOf(String word) {
        if (named.containsKey(word)) {
            return named.get(word);
        }
        return word.startsWith("0b") ? Integer.parseInt(word.substring(2), 2) : Integer.parseInt(word);
    }

    private static void callsAndConstants(String page) {
        for (Method method : InterlockBoard.class.getDeclaredMethods()) {
            if (Modifier.isPublic(method.getModifiers())) {
                names(page, method.getName());
            }
        }
        for (String constant : List.of("INVALID_ARGUMENT", "NOT_POSSIBLE", "LIMIT_REACHED", "NOT_FOUND")) {
            names(page, constant);
        }
    }

    private static void tests(String page) throws IOException {
        try (Stream<Path> files = Files.list(TESTS)) {
            for (Path file : files.collect(Collectors.toList())) {
                String name = file.getFileName().toString().replace(".java", "");
                if (name.endsWith("Test")) {
                    names(page, name);
                }
            }
        }
    }

    private static void names(String page, String word) {
        if (!page.contains("`" + word + "`")) {
            Checks.fault("README.md does not name " + word);
        }
    }
}
