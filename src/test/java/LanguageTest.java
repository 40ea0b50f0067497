import java.io.IOException;
import java.lang.reflect.Constructor;
import java.lang.reflect.Field;
import java.lang.reflect.Method;
import java.lang.reflect.Modifier;
import java.nio.file.Files;
import java.nio.file.Path;
import java.util.Set;
import java.util.TreeSet;
import java.util.regex.Matcher;
import java.util.regex.Pattern;

/** The face as the document has it, and those rules of LANGUAGE.md that can be looked up. */
public final class LanguageTest {
    private static final Set<String> FACE = new TreeSet<>(Set.of(
            "sensor(int)", "lock(int,int)", "essential(int,int)", "input(int,int)",
            "inputInfo(int,int)", "keyIn(int,int)", "keyOut(int)", "key(int)", "bridge(int,int)",
            "unbridge(int)", "bridged(int)", "row(int,int)", "dropRows(int)",
            "exclude(int,int,int)", "start(int)", "why(int)", "stop(int)", "reset(int)",
            "motion(int,int)", "ways(int)", "waysAgain(int)", "needed(int)", "test(int)",
            "run(int)", "count(int)", "snapshot(int)", "restore(int)", "undo()", "type(int)",
            "clearText()", "fault(int)", "read()"));
    private static final Set<String> CONSTANTS = new TreeSet<>(Set.of(
            "INVALID_ARGUMENT", "NOT_POSSIBLE", "LIMIT_REACHED", "NOT_FOUND"));
    private static final String[] RULED_OUT = {
        "import", "package", "throw", "throws", "try", "catch", "synchronized", "assert",
        "Object", "Exception", "System\\.(?!arraycopy)\\w+", "Math\\.\\w*Exact", "->", "::",
        "equals", "hashCode", "toString", "volatile", "native", "float", "double"};

    public static void main(String[] arguments) throws IOException {
        face();
        for (Class<?> inside : InterlockBoard.class.getDeclaredClasses()) {
            int modifiers = inside.getModifiers();
            require(Modifier.isStatic(modifiers), inside + " is not static");
            require(!Modifier.isPublic(modifiers) && !Modifier.isProtected(modifiers),
                    inside + " is public or protected");
            staticFields(inside);
            noPrivateMethodLikePublicOne(inside);
        }
        staticFields(InterlockBoard.class);
        noPrivateMethodLikePublicOne(InterlockBoard.class);
        if (arguments.length > 0) {
            source(Files.readString(Path.of(arguments[0])));
        }
        Checks.end("LanguageTest");
    }

    private static void require(boolean holds, String whatIsWrong) {
        if (!holds) {
            Checks.fault(whatIsWrong);
        }
    }

    private static void face() {
        Class<?> board = InterlockBoard.class;
        require(board.getModifiers() == (Modifier.PUBLIC | Modifier.FINAL), "not public and final");
        Set<String> methods = new TreeSet<>();
        for (Method method : board.getDeclaredMethods()) {
            if (!Modifier.isPrivate(method.getModifiers()) && !method.isSynthetic()) {
                String whole = method.toString();
                require(method.getModifiers() == Modifier.PUBLIC, whole + " is not only public");
                require(method.getReturnType() == int.class, whole + " answers no int");
                methods.add(whole.substring(whole.indexOf("InterlockBoard.") + 15));
            }
        }
        require(methods.equals(FACE), "the methods are " + methods);
        Set<String> constants = new TreeSet<>();
        for (Field field : board.getDeclaredFields()) {
            if (!Modifier.isPrivate(field.getModifiers())) {
                require(field.getModifiers() == (Modifier.PUBLIC | Modifier.STATIC | Modifier.FINAL)
                        && field.getType() == int.class, field + " is no constant");
                constants.add(field.getName());
            }
        }
        require(constants.equals(CONSTANTS), "the constants are " + constants);
        Constructor<?>[] constructors = board.getDeclaredConstructors();
        require(constructors.length == 1 && constructors[0].getParameterCount() == 0
                && Modifier.isPublic(constructors[0].getModifiers()), "not the one constructor");
    }

    private static void staticFields(Class<?> owner) {
        for (Field field : owner.getDeclaredFields()) {
            int modifiers = field.getModifiers();
            require(!Modifier.isStatic(modifiers) || Modifier.isFinal(modifiers),
                    field + " is static and not final");
        }
    }

    private static void noPrivateMethodLikePublicOne(Class<?> owner) {
        for (Method method : owner.getDeclaredMethods()) {
            require(!Modifier.isPrivate(method.getModifiers())
                    || FACE.stream().noneMatch(one -> one.startsWith(method.getName() + "(")),
                    method + " bears the name of a public one");
        }
    }

    private static void source(String whole) {
        String bare = whole.replaceAll("(?s)/\\*.*?\\*/", " ").replaceAll("//[^\n]*", " ")
                .replaceAll("'.'", "' '");
        for (String word : RULED_OUT) {
            String sought = Character.isLetter(word.charAt(0)) ? "\\b" + word + "\\b" : word;
            Matcher matcher = Pattern.compile(sought).matcher(bare);
            require(!matcher.find(), "the program has the word " + word);
        }
        require(whole.chars().allMatch(sign -> sign > 0 && sign < 128), "a sign beyond 127");
    }
}
