import java.io.IOException;
import java.lang.reflect.Constructor;
import java.lang.reflect.Field;
import java.lang.reflect.Method;
import java.lang.reflect.Modifier;
import java.nio.file.Files;
import java.nio.file.Path;
import java.util.ArrayList;
import java.util.List;
import java.util.Set;
import java.util.TreeSet;
import java.util.regex.Matcher;
import java.util.regex.Pattern;

/** The public face, and those rules of LANGUAGE.md that can be read off the file without a compiler. */
public final class FaceTest {
    private static final String[] CONSTANTS = {"NO_SUCH = -1", "BAD_VALUE = -2", "BAD_TEXT = -3", "TOO_MANY = -4",
        "NOT_POSSIBLE = -5", "NONE = -6", "KEEPS = 0", "RIFFLES = 1"};
    private static final String[] METHODS = {"set(int, int)", "seed(int)", "bend(int)", "read()", "shuffle()",
        "cut(int)", "sort()", "deal(int)", "seal(int)", "open(int)", "card(int)", "placeOf(int)", "holder(int, int)",
        "hand(int, int, int)", "board(int, int)", "count(int)", "alike(int, int)", "ifRiffled(int, int)", "needed()",
        "worstBend()", "put(long)", "wipe()", "fault()", "undo()", "save(int)", "restore(int)"};
    private static final String[] LEFT_OUT = {"throw", "throws", "try", "catch", "finally", "synchronized", "assert",
        "import", "package", "volatile", "native", "Exact", "->", "::", "@", "\" +", "+ \"", "System.out", "var "};
    /** The library that rule 4 leaves, as far as the class uses it, and its own classes. */
    private static final Set<String> TYPES = Set.of("SealedDeals", "Table", "Board", "Trial", "Pad", "String", "System",
        "Math");
    private static final String[] LIBRARY = {"System.arraycopy", "Math.max"};
    private static final String[] SECTIONS = {"changes: set seed bend read shuffle cut sort deal seal open",
        "what there is; nothing changes: card placeOf holder hand board count alike",
        "what if; nothing changes: ifRiffled needed worstBend", "texts: put wipe fault",
        "undo, saving: undo save restore"};
    private static final int LONGEST_METHOD = 60;

    public static void main(String[] args) throws IOException, IllegalAccessException {
        face();
        insideClasses();
        String source = Files.readString(Path.of("src/main/java/SealedDeals.java"));
        linesOfTheDocument(source);
        sections(source);
        String code = withoutComments(source);
        library(code);
        for (String word : LEFT_OUT) {
            String sought = Character.isLetter(word.charAt(0)) ? "\\b" + Pattern.quote(word) : Pattern.quote(word);
            sought += Character.isLetter(word.charAt(word.length() - 1)) ? "\\b" : "";
            Due.holds("without " + word, !Pattern.compile(sought).matcher(code).find());
        }
        signsOf(code);
        methodLengths(code);
        Due.finish();
    }

    private static void face() throws IllegalAccessException {
        Set<String> found = new TreeSet<>();
        for (Field field : SealedDeals.class.getDeclaredFields()) {
            if (!Modifier.isPrivate(field.getModifiers())) {
                Due.holds(field.getName() + " is a constant", isConstant(field));
                found.add(field.getName() + " = " + field.getInt(null));
            }
        }
        same("constants", CONSTANTS, found);
        found.clear();
        for (Method method : SealedDeals.class.getDeclaredMethods()) {
            if (!Modifier.isPrivate(method.getModifiers())) {
                Due.holds(method.getName() + " returns an int", method.getReturnType() == int.class);
                found.add(method.getName() + argumentsOf(method));
            }
        }
        same("methods", METHODS, found);
        Constructor<?>[] constructors = SealedDeals.class.getDeclaredConstructors();
        Due.is("constructors", 1, constructors.length);
        Due.is("its parameters", 0, constructors[0].getParameterCount());
        Due.holds("public constructor", Modifier.isPublic(constructors[0].getModifiers()));
        Due.holds("public final class", SealedDeals.class.getModifiers() == (Modifier.PUBLIC | Modifier.FINAL));
    }

    /** Each line of the document's face stands in the file, with its parameters' names. */
    private static void linesOfTheDocument(String source) throws IOException {
        String face = Files.readString(Path.of("../shared/DOC.md")).split("```java\n")[1].split("```")[0];
        int lines = 0;
        for (String line : face.lines().filter(one -> one.startsWith("    ")).toList()) {
            String written = line.endsWith(");") ? line.replace(");", ") {") : line;
            Due.holds("The public face: " + line.strip(), source.contains("\n" + written + "\n"));
            lines++;
        }
        Due.is("lines of the public face", 2 + 1 + METHODS.length, lines);
    }

    private static void sections(String source) {
        List<String> found = new ArrayList<>();
        Matcher lines = Pattern.compile("(?m)^    (?:// ---- (.+)|public int (\\w+)\\(.*)$").matcher(source);
        while (lines.find()) {
            if (lines.group(1) != null) {
                found.add(lines.group(1) + ":");
            } else if (!found.isEmpty()) {
                found.add(found.remove(found.size() - 1) + " " + lines.group(2));
            }
        }
        Due.holds("Terms, what the interface says ahead of the calls: " + found, found.equals(List.of(SECTIONS)));
    }

    private static void library(String code) {
        Matcher types = Pattern.compile("\\b[A-Z]\\w*[a-z]\\w*\\b").matcher(code);
        while (types.find()) {
            Due.holds("LANGUAGE.md 3 and 4: " + types.group(), TYPES.contains(types.group()));
        }
        Matcher calls = Pattern.compile("\\b(System|Math)\\.\\w+").matcher(code);
        while (calls.find()) {
            Due.holds("LANGUAGE.md 4: " + calls.group(), List.of(LIBRARY).contains(calls.group()));
        }
    }

    private static String argumentsOf(Method method) {
        StringBuilder arguments = new StringBuilder();
        for (Class<?> type : method.getParameterTypes()) {
            arguments.append(arguments.length() == 0 ? "" : ", ").append(type.getName());
        }
        return "(" + arguments + ")";
    }

    private static boolean isConstant(Field field) {
        int wanted = Modifier.STATIC | Modifier.FINAL;
        return (field.getModifiers() & wanted) == wanted;
    }

    private static void same(String what, String[] wanted, Set<String> found) {
        Set<String> all = new TreeSet<>(Set.of(wanted));
        if (!all.equals(found)) {
            System.out.println(what + ": " + found + " instead of " + all);
        }
        Due.holds(what, all.equals(found));
    }

    private static void insideClasses() {
        Set<String> publicNames = new TreeSet<>();
        for (String method : METHODS) {
            publicNames.add(method.substring(0, method.indexOf('(')));
        }
        Class<?>[] inside = SealedDeals.class.getDeclaredClasses();
        Due.holds("at most twelve classes", inside.length < 12);
        for (Class<?> one : inside) {
            int modifiers = one.getModifiers();
            Due.holds(one + " is static", Modifier.isStatic(modifiers));
            Due.holds(one + " is not for others", !Modifier.isPublic(modifiers) && !Modifier.isProtected(modifiers));
            Due.holds(one + " has at most twenty fields", one.getDeclaredFields().length <= 20);
            for (Field field : one.getDeclaredFields()) {
                Due.holds(field + " is no changing static", !Modifier.isStatic(field.getModifiers()) || isConstant(field));
            }
            for (Method method : one.getDeclaredMethods()) {
                Due.holds(method + " has a name of its own", !publicNames.contains(method.getName()));
                Due.holds(method + " has few parameters", method.getParameterCount() <= 7);
            }
        }
        for (Field field : SealedDeals.class.getDeclaredFields()) {
            Due.holds(field + " is no changing static", !Modifier.isStatic(field.getModifiers()) || isConstant(field));
        }
        for (Method method : SealedDeals.class.getDeclaredMethods()) {
            Due.holds(method + " has no other's name",
                !Modifier.isPrivate(method.getModifiers()) || !publicNames.contains(method.getName()));
        }
    }

    private static String withoutComments(String source) {
        return source.replaceAll("(?s)/\\*.*?\\*/", "").replaceAll("//[^\n]*", "");
    }

    private static void signsOf(String code) {
        boolean plain = true;
        for (int index = 0; index < code.length(); index++) {
            plain &= code.charAt(index) < 127;
        }
        Due.holds("signs below 127 alone", plain);
    }

    private static void methodLengths(String code) {
        Matcher bodies = Pattern.compile("(?m)^( {4}| {8})[a-zA-Z][^;=\n]*\\) \\{\n(?s:(.*?))^\\1\\}\n").matcher(code);
        int found = 0;
        while (bodies.find()) {
            found++;
            Due.holds("a short method: " + bodies.group().lines().findFirst().orElse(""),
                bodies.group(2).lines().count() <= LONGEST_METHOD);
        }
        Due.holds("methods are found", found > 60);
    }
}
