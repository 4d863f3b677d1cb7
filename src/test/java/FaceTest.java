import java.lang.reflect.Constructor;
import java.lang.reflect.Field;
import java.lang.reflect.Method;
import java.lang.reflect.Modifier;
import java.nio.file.Files;
import java.nio.file.Path;
import java.util.ArrayList;
import java.util.Arrays;
import java.util.HashSet;
import java.util.List;
import java.util.Set;
import java.util.regex.Matcher;
import java.util.regex.Pattern;

/** The public face of the document, and the rules of LANGUAGE.md that a reading of the file can tell. */
public final class FaceTest {
    private static final List<String> FACE = List.of(
        "boolean again(int, int)", "boolean write(long, int)", "int byteAt(int)", "int cut(int, int, long)",
        "int forged(int)", "int joined(int, int, long)", "int masked(int, boolean)", "int mended(int, int)",
        "int narrow()", "int narrowOf(int, int, int)", "int poly()", "int polyOf(int, int)", "int size()",
        "long wide()", "long wideOf(int, int, long)", "void begin(int, long)");

    public static void main(String[] args) throws Exception {
        Checks.due("the class is public and final",
            StreamSums.class.getModifiers() == (Modifier.PUBLIC | Modifier.FINAL), true);
        constructor();
        methods();
        fields();
        String code = Files.readString(Path.of("src/main/java/StreamSums.java"))
            .replaceAll("(?s)/\\*.*?\\*/", "").replaceAll("//[^\n]*", "");
        forbiddenWords(code);
        noLibrary(code);
        objectsOnlyInTheConstructor(code);
        shortMethods(code);
        Checks.end();
    }

    private static void constructor() {
        Constructor<?>[] all = StreamSums.class.getDeclaredConstructors();
        Checks.due("how many constructors", all.length, 1);
        Checks.due("the constructor is public", Modifier.isPublic(all[0].getModifiers()), true);
        Checks.due("the constructor's parameters", all[0].getParameterCount(), 0);
    }

    private static void methods() {
        List<String> seen = new ArrayList<>();
        Set<String> names = new HashSet<>();
        for (Method method : StreamSums.class.getDeclaredMethods()) {
            if (!Modifier.isPrivate(method.getModifiers())) {
                seen.add(signature(method));
                names.add(method.getName());
            }
        }
        seen.sort(null);
        Checks.due("the face is the document's: " + seen, seen.equals(FACE), true);
        for (Method method : StreamSums.class.getDeclaredMethods()) {
            boolean hidden = Modifier.isPrivate(method.getModifiers()) && names.contains(method.getName());
            Checks.due("a private method bears a public name: " + method.getName(), hidden, false);
        }
    }

    private static String signature(Method method) {
        String parameters = Arrays.toString(method.getParameterTypes());
        return method.getReturnType() + " " + method.getName()
            + "(" + parameters.substring(1, parameters.length() - 1) + ")";
    }

    private static void fields() {
        for (Field field : StreamSums.class.getDeclaredFields()) {
            int modifiers = field.getModifiers();
            Checks.due(field.getName() + " is private", Modifier.isPrivate(modifiers), true);
            Checks.due(field.getName() + " is no changing static",
                Modifier.isStatic(modifiers) && !Modifier.isFinal(modifiers), false);
        }
    }

    private static void forbiddenWords(String code) {
        Matcher found = Pattern.compile("\\b(throw|throws|try|catch|synchronized|assert|import|package|static\\s*\\{"
            + "|\\w+Exact|System\\.(?!arraycopy)\\w+|Thread|Random)|->|::").matcher(code);
        while (found.find()) {
            Checks.due("LANGUAGE.md rules out: " + found.group(), true, false);
        }
    }

    /** The class uses none of what LANGUAGE.md lists, so that no name of a class may stand in it but its own. */
    private static void noLibrary(String code) {
        Matcher name = Pattern.compile("\\b[A-Z]\\w*[a-z]\\w*|\"").matcher(code);
        while (name.find()) {
            Checks.due("a name of the library or a text: " + name.group(), name.group().equals("StreamSums"), true);
        }
        Checks.due("classes inside", StreamSums.class.getDeclaredClasses().length, 0);
    }

    private static void objectsOnlyInTheConstructor(String code) {
        String constructor = methodsOf(code).get(0);
        Checks.due("the first method is the constructor", constructor.contains("public StreamSums()"), true);
        Checks.due("arrays that the constructor makes", constructor.split("\\bnew\\b", -1).length - 1, 2);
        Checks.due("arrays and objects that are made", code.split("\\bnew\\b", -1).length - 1, 2);
    }

    private static void shortMethods(String code) {
        for (String method : methodsOf(code)) {
            String head = method.strip().split("\\{")[0];
            Checks.due(head + "has at most 60 lines", method.strip().lines().count() <= 60, true);
            Checks.due(head + "has at most 7 parameters", head.split(",").length <= 7, true);
        }
        Checks.due("methods that were looked at, and the constructor", methodsOf(code).size(),
            StreamSums.class.getDeclaredMethods().length + 1);
    }

    /** From each head, which is indented by four, to the brace that is. */
    private static List<String> methodsOf(String code) {
        List<String> methods = new ArrayList<>();
        Matcher method = Pattern.compile("(?ms)^    (?:public|private) [^;=]*?\\{$.*?^    \\}$").matcher(code);
        while (method.find()) {
            methods.add(method.group());
        }
        return methods;
    }
}
