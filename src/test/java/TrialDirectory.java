import java.io.IOException;
import java.nio.file.Files;
import java.nio.file.Path;
import java.util.Comparator;
import java.util.stream.Stream;

/** A directory of its own for a test, which is taken away again when it is closed. */
final class TrialDirectory implements AutoCloseable {
    final Path path;

    TrialDirectory() throws IOException {
        path = Files.createTempDirectory("market-weeks");
    }

    /** Writes a file there, with the directories that it stands in. */
    void write(String name, String text) throws IOException {
        Path file = path.resolve(name);
        Files.createDirectories(file.getParent());
        Files.writeString(file, text);
    }

    /** Takes a file away, or a directory with all that stands in it. */
    void remove(String name) throws IOException {
        removeAll(path.resolve(name));
    }

    private static void removeAll(Path from) throws IOException {
        try (Stream<Path> files = Files.walk(from)) {
            for (Path file : files.sorted(Comparator.reverseOrder()).toArray(Path[]::new)) {
                Files.delete(file);
            }
        }
    }

    @Override
    public void close() throws IOException {
        removeAll(path);
    }
}
