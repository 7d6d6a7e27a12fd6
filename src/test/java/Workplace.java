import java.io.IOException;
import java.nio.charset.StandardCharsets;
import java.nio.file.Files;
import java.nio.file.Path;
import java.nio.file.StandardCopyOption;
import java.util.Comparator;
import java.util.List;
import java.util.stream.Stream;

/** A folder of its own, in which a test lays files and runs programs; it is taken away when it is closed. */
final class Workplace implements AutoCloseable {
    private final Path folder;

    Workplace() throws IOException {
        folder = Files.createTempDirectory("sealed-deals");
    }

    void copy(String from, String to) throws IOException {
        Path target = folder.resolve(to);
        Files.createDirectories(target.getParent());
        Files.copy(Path.of(from), target, StandardCopyOption.COPY_ATTRIBUTES);
    }

    void write(String file, String text) throws IOException {
        Path target = folder.resolve(file);
        Files.createDirectories(target.getParent());
        Files.writeString(target, text);
    }

    void remove(String file) throws IOException {
        Files.delete(folder.resolve(file));
    }

    Ended run(String inFolder, String... words) throws IOException, InterruptedException {
        Process process = new ProcessBuilder(words).directory(folder.resolve(inFolder).toFile())
            .redirectErrorStream(true).start();
        process.getOutputStream().close();
        String output = new String(process.getInputStream().readAllBytes(), StandardCharsets.UTF_8);
        return new Ended(process.waitFor(), output);
    }

    @Override
    public void close() throws IOException {
        try (Stream<Path> inside = Files.walk(folder)) {
            List<Path> deepestFirst = inside.sorted(Comparator.reverseOrder()).toList();
            for (Path path : deepestFirst) {
                Files.delete(path);
            }
        }
    }

    record Ended(int exitCode, String output) {
    }
}
