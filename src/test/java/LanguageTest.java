import java.io.IOException;
import java.lang.reflect.Constructor;
import java.lang.reflect.Field;
import java.lang.reflect.Method;
import java.lang.reflect.Modifier;
import java.nio.file.Files;
import java.nio.file.Path;
import java.util.Set;
import java.util.TreeSet;
import java.util.regex.Matcher;
import java.util.regex.Pattern;

/**
 * The face as the document has it, line for line, the heads ahead of its calls, and those rules of
 * LANGUAGE.md that can be looked up. Its arguments are the program and the document.
 */
public final class LanguageTest {
    private static final Set<String> FACE = new TreeSet<>(Set.of(
            "sensor(int)", "lock(int,int)", "essential(int,int)", "input(int,int)",
            "inputInfo(int,int)", "keyIn(int,int)", "keyOut(int)", "key(int)", "bridge(int,int)",
            "unbridge(int)", "bridged(int)", "row(int,int)", "dropRows(int)",
            "exclude(int,int,int)", "start(int)", "why(int)", "stop(int)", "reset(int)",
            "motion(int,int)", "ways(int)", "waysAgain(int)", "needed(int)", "test(int)",
            "run(int)", "count(int)", "snapshot(int)", "restore(int)", "undo()", "type(int)",
            "clearText()", "fault(int)", "read()"));
    private static final Set<String> CONSTANTS = new TreeSet<>(Set.of(
            "INVALID_ARGUMENT", "NOT_POSSIBLE", "LIMIT_REACHED", "NOT_FOUND"));
    private static final String[] RULED_OUT = {
        "import", "package", "throw", "throws", "try", "catch", "synchronized", "assert",
        "Object", "Exception", "System\\.(?!arraycopy)\\w+", "Math\\.\\w*Exact", "->", "::",
        "equals", "hashCode", "toString", "volatile", "native", "float", "double"};

    private static final Pattern METHOD = Pattern.compile(" +(?:\\w+ )*[\\w\\[\\]]+\\(.*\\) \\{");

    public static void main(String[] arguments) throws IOException {
        face();
        Class<?>[] insides = InterlockBoard.class.getDeclaredClasses();
        require(insides.length < 12, "too many classes: " + insides.length);
        for (Class<?> inside : insides) {
            int modifiers = inside.getModifiers();
            require(Modifier.isStatic(modifiers), inside + " is not static");
            require(!Modifier.isPublic(modifiers) && !Modifier.isProtected(modifiers),
                    inside + " is public or protected");
            staticFields(inside);
            noPrivateMethodLikePublicOne(inside);
            sizes(inside);
        }
        staticFields(InterlockBoard.class);
        noPrivateMethodLikePublicOne(InterlockBoard.class);
        sizes(InterlockBoard.class);
        if (arguments.length > 0) {
            String source = Files.readString(Path.of(arguments[0]));
            source(source);
            methodsAreShort(source);
            if (arguments.length > 1) {
                String document = Files.readString(Path.of(arguments[1]));
                faceOfDocument(source, document);
                headsOfDocument(source, document);
            }
        }
        Checks.end("LanguageTest");
    }

    private static void require(boolean holds, String whatIsWrong) {
        if (!holds) {
            Checks.fault(whatIsWrong);
        }
    }

    private static void face() {
        Class<?> board = InterlockBoard.class;
        require(board.getModifiers() == (Modifier.PUBLIC | Modifier.FINAL), "not public and final");
        Set<String> methods = new TreeSet<>();
        for (Method method : board.getDeclaredMethods()) {
            if (!Modifier.isPrivate(method.getModifiers()) && !method.isSynthetic()) {
                String whole = method.toString();
                require(method.getModifiers() == Modifier.PUBLIC, whole + " is not only public");
                require(method.getReturnType() == int.class, whole + " answers no int");
                methods.add(whole.substring(whole.indexOf("InterlockBoard.") + 15));
            }
        }
        require(methods.equals(FACE), "the methods are " + methods);
        Set<String> constants = new TreeSet<>();
        for (Field field : board.getDeclaredFields()) {
            if (!Modifier.isPrivate(field.getModifiers())) {
                require(field.getModifiers() == (Modifier.PUBLIC | Modifier.STATIC | Modifier.FINAL)
                        && field.getType() == int.class, field + " is no constant");
                constants.add(field.getName());
            }
        }
        require(constants.equals(CONSTANTS), "the constants are " + constants);
        Constructor<?>[] constructors = board.getDeclaredConstructors();
        require(constructors.length == 1 && constructors[0].getParameterCount() == 0
                && Modifier.isPublic(constructors[0].getModifiers()), "not the one constructor");
    }

    private static void staticFields(Class<?> owner) {
        for (Field field : owner.getDeclaredFields()) {
            int modifiers = field.getModifiers();
            require(!Modifier.isStatic(modifiers) || Modifier.isFinal(modifiers),
                    field + " is static and not final");
        }
    }

    private static void noPrivateMethodLikePublicOne(Class<?> owner) {
        for (Method method : owner.getDeclaredMethods()) {
            require(!Modifier.isPrivate(method.getModifiers())
                    || FACE.stream().noneMatch(one -> one.startsWith(method.getName() + "(")),
                    method + " bears the name of a public one");
        }
    }

    private static void sizes(Class<?> owner) {
        int fields = 0;
        for (Field field : owner.getDeclaredFields()) {
            fields += Modifier.isStatic(field.getModifiers()) ? 0 : 1;
        }
        require(fields <= 20, owner + " has " + fields + " fields");
        for (Method method : owner.getDeclaredMethods()) {
            require(method.getParameterCount() <= 7, method + " has too many parameters");
        }
    }

    /** A method ends with the first line that stands as far to the right as its own first one. */
    private static void methodsAreShort(String source) {
        String[] lines = source.split("\n");
        int found = 0;
        for (int first = 0; first < lines.length; first++) {
            if (METHOD.matcher(lines[first]).matches() && !lines[first].contains(" new ")) {
                String last = " ".repeat(lines[first].length() - lines[first].stripLeading().length()) + "}";
                int end = first;
                while (end < lines.length && !lines[end].equals(last)) {
                    end++;
                }
                require(end - first < 60, "a method of too many lines: " + lines[first]);
                found++;
            }
        }
        require(found >= FACE.size(), "found only so many methods: " + found);
    }

    /** Each line of "The public face" stands in the program, in the same order. */
    private static void faceOfDocument(String source, String document) {
        int from = document.indexOf("public final class InterlockBoard {");
        int end = document.indexOf("```", Math.max(from, 0));
        if (from < 0 || end < 0) {
            Checks.fault("the document has no public face");
            return;
        }
        int at = 0;
        int calls = 0;
        for (String line : document.substring(from, end).split("\n")) {
            String sought = line.equals("}") ? line : line.replace(");", ") {");
            int place = source.indexOf("\n" + sought + "\n", at);
            require(place >= 0, "not in the program, or not in this order: " + line);
            at = Math.max(at, place + 1);
            calls += sought.endsWith(") {") ? 1 : 0;
        }
        require(calls == FACE.size() + 1, "the face of the document has " + calls + " calls");
    }

    /** "Ahead of the calls .. the interface says: ---- ..": these calls stand behind this line. */
    private static void headsOfDocument(String source, String document) {
        Matcher heads = Pattern.compile("Ahead of the calls (.*) the interface says: (---- .*)\\.")
                .matcher(document);
        int found = 0;
        while (heads.find()) {
            int from = source.indexOf("\n    // " + heads.group(2) + "\n");
            int end = source.indexOf("\n    // ----", Math.max(from, 0) + 1);
            require(from >= 0 && end >= 0, "the program does not say: " + heads.group(2));
            for (String name : heads.group(1).replace("`", "").split(", ")) {
                int place = source.indexOf("\n    public int " + name + "(");
                require(place > from && place < end, name + " does not stand behind " + heads.group(2));
            }
            found++;
        }
        require(found == 5, "the document has other heads: " + found);
    }

    private static void source(String whole) {
        String bare = whole.replaceAll("(?s)/\\*.*?\\*/", " ").replaceAll("//[^\n]*", " ")
                .replaceAll("'.'", "' '");
        for (String word : RULED_OUT) {
            String sought = Character.isLetter(word.charAt(0)) ? "\\b" + word + "\\b" : word;
            Matcher matcher = Pattern.compile(sought).matcher(bare);
            require(!matcher.find(), "the program has the word " + word);
        }
        require(whole.chars().allMatch(sign -> sign > 0 && sign < 128), "a sign beyond 127");
    }
}
