import java.io.IOException;
import java.io.UncheckedIOException;
import java.nio.charset.StandardCharsets;
import java.nio.file.Files;
import java.nio.file.Path;
import java.util.Comparator;
import java.util.List;
import java.util.stream.Stream;

/** A directory for a while, in which files are written and commands run as a user would run them. */
final class Workshop implements AutoCloseable {
    record Outcome(int code, String text) {
    }

    private final Path directory;

    Workshop() throws IOException {
        directory = Files.createTempDirectory("oscillator-row");
    }

    void write(String path, String text) throws IOException {
        Path file = directory.resolve(path);
        Files.createDirectories(file.getParent());
        Files.writeString(file, text);
    }

    /** The file or all files below the directory of the project, at the same path here or another. */
    void copy(String from, String to) throws IOException {
        Path source = Path.of(from);
        for (Path file : filesBelow(source)) {
            if (Files.isRegularFile(file)) {
                write(directory.resolve(to).resolve(source.relativize(file)).toString(), Files.readString(file));
            }
        }
    }

    // What the commands print as errors goes to the test's own, so that the text is theirs alone.
    Outcome run(String below, String commands) throws IOException, InterruptedException {
        Process shell = new ProcessBuilder("sh", "-e", "-c", commands)
                .directory(directory.resolve(below).toFile())
                .redirectError(ProcessBuilder.Redirect.INHERIT)
                .start();
        String text = new String(shell.getInputStream().readAllBytes(), StandardCharsets.UTF_8);
        return new Outcome(shell.waitFor(), text);
    }

    @Override
    public void close() {
        try {
            for (Path file : filesBelow(directory)) {
                Files.delete(file);
            }
        } catch (IOException failure) {
            throw new UncheckedIOException(failure);
        }
    }

    /** What is inside a directory comes before it. */
    private static List<Path> filesBelow(Path top) throws IOException {
        try (Stream<Path> files = Files.walk(top)) {
            return files.sorted(Comparator.reverseOrder()).toList();
        }
    }
}
