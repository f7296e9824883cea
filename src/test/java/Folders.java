import java.io.IOException;
import java.nio.file.Files;
import java.nio.file.Path;
import java.util.Comparator;
import java.util.stream.Stream;

/** Folders for the tests that try out commands. */
final class Folders {
    private Folders() {
    }

    static void write(Path root, String file, String text) throws IOException {
        Path path = root.resolve(file);
        Files.createDirectories(path.getParent());
        Files.writeString(path, text);
    }

    /** Copies a folder of the project to the same place under the root. */
    static void copy(Path root, String folder) throws IOException {
        try (Stream<Path> paths = Files.walk(Path.of(folder))) {
            for (Path path : paths.toList()) {
                Files.copy(path, root.resolve(path.toString()));
            }
        }
    }

    static void remove(Path root) throws IOException {
        try (Stream<Path> paths = Files.walk(root)) {
            for (Path path : paths.sorted(Comparator.reverseOrder()).toList()) {
                Files.delete(path);
            }
        }
    }
}
