import java.io.IOException;
import java.nio.file.FileSystems;
import java.nio.file.Files;
import java.nio.file.Path;
import java.nio.file.PathMatcher;
import java.util.ArrayList;
import java.util.List;
import java.util.Set;
import java.util.TreeSet;
import java.util.regex.Matcher;
import java.util.regex.Pattern;
import java.util.stream.Stream;

/** What README.md shows as use of the class compiles against it and answers as its comments say. */
public final class ReadmeTest {
    private static final String CLASS = "src/main/java/SealedDeals.java";
    private static final String TESTS = "src/test/java";
    private static final String FIRST_LINE = "SealedDeals deals = new SealedDeals();";
    private static final Pattern CALL = Pattern.compile("(deals\\..+\\)); +// (-?\\d+)(?:, ([A-Z_]+))?: .+");

    public static void main(String[] args) throws Exception {
        useOfTheClass();
        namedFiles();
        Due.finish();
    }

    private static void useOfTheClass() throws Exception {
        List<String> lines = Readme.useOfTheClass();
        Due.holds("README.md begins with a new object", lines.get(0).equals(FIRST_LINE));
        List<Matcher> calls = new ArrayList<>();
        for (String line : lines.subList(1, lines.size())) {
            Matcher call = CALL.matcher(line);
            Due.holds("README.md tells the call and its answer: " + line, call.matches());
            if (call.matches()) {
                calls.add(call);
            }
        }
        List<String> answers = answersTo(lines, calls);
        Due.is("README.md, answers", calls.size(), answers.size());
        for (int index = 0; index < Math.min(calls.size(), answers.size()); index++) {
            Matcher call = calls.get(index);
            int due = Integer.parseInt(call.group(2));
            Due.is("README.md, " + call.group(1), due, Integer.parseInt(answers.get(index)));
            if (call.group(3) != null) {
                Due.is("README.md, " + call.group(3), SealedDeals.class.getField(call.group(3)).getInt(null), due);
            }
        }
    }

    /** As README.md says it: the file lies beside the sources that use it. */
    private static List<String> answersTo(List<String> lines, List<Matcher> calls) throws Exception {
        StringBuilder told = new StringBuilder(FIRST_LINE);
        for (Matcher call : calls) {
            told.append("\nSystem.out.println(").append(call.group(1)).append(");");
        }
        try (Workplace place = new Workplace()) {
            place.copy(CLASS, "SealedDeals.java");
            place.write("Use.java", "class Use {\nstatic void asShown() {\n" + String.join("\n", lines)
                + "\n}\npublic static void main(String[] args) {\n" + told + "\n}\n}\n");
            Workplace.Ended compiled = place.run("", "javac", "--release", "17", "Use.java");
            Due.is("README.md compiles: " + compiled.output(), 0, compiled.exitCode());
            Workplace.Ended ran = place.run("", "java", "Use");
            Due.is("README.md runs", 0, ran.exitCode());
            return ran.exitCode() == 0 ? ran.output().lines().toList() : List.of();
        }
    }

    private static void namedFiles() throws IOException {
        Set<Path> untold = new TreeSet<>(filesIn(TESTS, "*Test.java"));
        for (String name : Readme.namedFiles()) {
            Path path = name.contains("/") ? Path.of(name) : Path.of(TESTS, name);
            List<Path> found = filesIn(path.getParent().toString(), path.getFileName().toString());
            Due.holds("README.md names a file that there is: " + name, !found.isEmpty());
            untold.removeAll(found);
        }
        Due.holds("README.md names each test, but " + untold, untold.isEmpty());
    }

    private static List<Path> filesIn(String folder, String pattern) throws IOException {
        PathMatcher matcher = FileSystems.getDefault().getPathMatcher("glob:" + pattern);
        try (Stream<Path> files = Files.list(Path.of(folder))) {
            return files.filter(file -> matcher.matches(file.getFileName())).toList();
        }
    }
}
