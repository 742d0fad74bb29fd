import java.io.IOException;
import java.nio.file.Files;
import java.nio.file.Path;
import java.util.ArrayList;
import java.util.Collections;
import java.util.List;
import java.util.stream.Stream;

/** A directory of its own for a test that compiles and runs something; it is deleted at the end. */
final class Sandbox implements AutoCloseable {
    /** What a command ended with and printed. */
    record Outcome(int exit, String printed) {
    }

    final Path root;

    Sandbox() throws IOException {
        root = Files.createTempDirectory("tinfen");
    }

    Path write(String file, String text) throws IOException {
        Path path = root.resolve(file);
        Files.createDirectories(path.getParent());
        return Files.writeString(path, text);
    }

    static Outcome run(Path where, List<String> command) throws IOException, InterruptedException {
        Process process = new ProcessBuilder(command).directory(where.toFile()).redirectErrorStream(true).start();
        process.getOutputStream().close();
        String printed = new String(process.getInputStream().readAllBytes());
        return new Outcome(process.waitFor(), printed);
    }

    @Override
    public void close() throws IOException {
        List<Path> all;
        try (Stream<Path> tree = Files.walk(root)) {
            all = new ArrayList<>(tree.toList());
        }
        Collections.reverse(all);
        for (Path path : all) {
            Files.delete(path);
        }
    }
}
