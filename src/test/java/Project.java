import java.io.IOException;
import java.nio.charset.StandardCharsets;
import java.nio.file.FileVisitOption;
import java.nio.file.Files;
import java.nio.file.Path;
import java.util.Comparator;
import java.util.List;
import java.util.stream.Stream;

/** A copy of the project, or of a part of it, in which commands can be run; it is gone when closed. */
final class Project implements AutoCloseable {
    private final Path top;
    private final Path main;

    Project() throws IOException {
        top = Files.createTempDirectory("fleet-floor");
        main = Files.createDirectory(top.resolve("main"));
    }

    /** Copies a file, or a directory with all that it holds, to the same place in the copy. */
    void take(String name) throws IOException {
        try (Stream<Path> found = Files.walk(Path.of(name), FileVisitOption.FOLLOW_LINKS)) {
            for (Path one : (Iterable<Path>) found::iterator) {
                if (Files.isRegularFile(one)) {
                    Files.copy(one, placeOf(one.toString()));
                }
            }
        }
    }

    void write(String name, String text) throws IOException {
        Files.writeString(placeOf(name), text);
    }

    private Path placeOf(String name) throws IOException {
        Path place = main.resolve(name).normalize();
        Files.createDirectories(place.getParent());
        return place;
    }

    /** Where what a command printed can be read behind it. */
    private Path printed() {
        return top.resolve("printed");
    }

    int run(String script) throws IOException, InterruptedException {
        ProcessBuilder shell = new ProcessBuilder(List.of("sh", "-e", "-c", script));
        shell.directory(main.toFile());
        shell.redirectErrorStream(true);
        shell.redirectOutput(printed().toFile());
        return shell.start().waitFor();
    }

    String whatWasPrinted() throws IOException {
        return new String(Files.readAllBytes(printed()), StandardCharsets.UTF_8);
    }

    @Override
    public void close() throws IOException {
        try (Stream<Path> found = Files.walk(top)) {
            for (Path one : (Iterable<Path>) found.sorted(Comparator.reverseOrder())::iterator) {
                Files.delete(one);
            }
        }
    }
}
