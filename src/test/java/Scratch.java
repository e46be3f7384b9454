import java.io.IOException;
import java.nio.charset.StandardCharsets;
import java.nio.file.Files;
import java.nio.file.Path;
import java.util.Comparator;
import java.util.List;
import java.util.stream.Stream;

/** A directory that is gone afterwards, for tests that run javac and java themselves. */
final class Scratch implements AutoCloseable {
    final Path dir = Files.createTempDirectory("delta-ladders");

    Scratch() throws IOException {
    }

    record Ran(int exit, String printed) {
    }

    /** What the command says against itself goes to this test's own errors. */
    Ran run(List<String> command) throws IOException, InterruptedException {
        Process process = new ProcessBuilder(command).redirectError(ProcessBuilder.Redirect.INHERIT).start();
        String printed = new String(process.getInputStream().readAllBytes(), StandardCharsets.UTF_8);
        return new Ran(process.waitFor(), printed);
    }

    /** The names of the classes under src/test/java. */
    static List<String> testClasses() throws IOException {
        try (Stream<Path> files = Files.list(Path.of("src/test/java"))) {
            return files.map(file -> file.getFileName().toString())
                .filter(name -> name.endsWith(".java"))
                .map(name -> name.substring(0, name.length() - ".java".length()))
                .sorted().toList();
        }
    }

    @Override
    public void close() throws IOException {
        try (Stream<Path> all = Files.walk(dir)) {
            for (Path path : all.sorted(Comparator.reverseOrder()).toList()) {
                Files.delete(path);
            }
        }
    }
}
