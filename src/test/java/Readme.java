import java.io.IOException;
import java.nio.file.Files;
import java.nio.file.Path;
import java.util.List;
import java.util.Set;
import java.util.TreeSet;
import java.util.regex.Matcher;
import java.util.regex.Pattern;

/** What README.md shows: the use of the class, the command for the tests, and the files that it names. */
final class Readme {
    private Readme() {
    }

    static List<String> useOfTheClass() throws IOException {
        return block("java").lines().filter(line -> !line.isBlank()).toList();
    }

    static String commandForTheTests() throws IOException {
        return block("sh").strip();
    }

    /** Paths and patterns as they are written, each that ends with .java. */
    static Set<String> namedFiles() throws IOException {
        Set<String> named = new TreeSet<>();
        Matcher names = Pattern.compile("`([^`\n]+\\.java)`").matcher(text());
        while (names.find()) {
            named.add(names.group(1));
        }
        return named;
    }

    private static String block(String language) throws IOException {
        String[] parts = text().split("(?m)^```" + language + "\n");
        Due.is("blocks of " + language + " in README.md", 1, parts.length - 1);
        return parts[parts.length - 1].split("(?m)^```")[0];
    }

    private static String text() throws IOException {
        return Files.readString(Path.of("README.md"));
    }
}
