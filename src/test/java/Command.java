import java.io.IOException;
import java.nio.charset.StandardCharsets;
import java.nio.file.Files;
import java.nio.file.Path;
import java.util.Comparator;
import java.util.List;
import java.util.stream.Stream;

/** A command that was run to its end: how it ended, and all that it printed. */
record Command(int exit, String output) {
  static Command run(Path folder, String... words) throws IOException {
    Process process = new ProcessBuilder(words).directory(folder.toFile()).redirectErrorStream(true).start();
    process.getOutputStream().close();
    String output = new String(process.getInputStream().readAllBytes(), StandardCharsets.UTF_8);
    try {
      return new Command(process.waitFor(), output);
    } catch (InterruptedException e) {
      throw new IOException(e);
    }
  }

  String lastLine() {
    List<String> lines = output.lines().toList();
    return lines.isEmpty() ? "" : lines.get(lines.size() - 1);
  }

  static void copyAll(Path folder, Path to) throws IOException {
    Path from = folder.toRealPath(); // a link is not walked into
    for (Path path : all(from)) {
      Path target = to.resolve(from.relativize(path).toString());
      if (Files.isDirectory(path)) Files.createDirectories(target);
      else Files.copy(path, target);
    }
  }

  static void deleteAll(Path folder) throws IOException {
    for (Path path : all(folder).stream().sorted(Comparator.reverseOrder()).toList()) Files.delete(path);
  }

  private static List<Path> all(Path folder) throws IOException {
    try (Stream<Path> paths = Files.walk(folder)) {
      return paths.toList();
    }
  }
}
