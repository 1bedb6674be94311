import java.io.IOException;
import java.io.UncheckedIOException;
import java.nio.file.Files;
import java.nio.file.Path;
import java.util.Arrays;
import java.util.Map;

/** The script .ci/run in a small project: it passes if all tests do, and fails if one of either kind does not. */
public final class CiTest {
  private static final String OWN = "src/test/java/FirstTest.java";
  private static final String SECOND = "src/test/java/SecondTest.java";
  private static final String SHARED = "../shared/tests/FirstRuns.java";
  private static final String LATER = "../shared/tests/SecondRuns.java";

  private record Project(String what, Map<String, String> files, int exit, String lastLine) {}

  private static final Project[] PROJECTS = {
    new Project("all pass", Map.of(OWN, answers(7), SHARED, answers(7)), 0, "2 passed, 0 failed"),
    new Project("each is run", Map.of(OWN, answers(7), SECOND, answers(7), SHARED, answers(7), LATER, answers(7)),
        0, "4 passed, 0 failed"),
    new Project("a test of the project fails", Map.of(OWN, answers(8), SECOND, answers(7), SHARED, answers(7)),
        1, "2 passed, 1 failed"),
    new Project("the last test of the project fails", Map.of(OWN, answers(7), SECOND, answers(8), SHARED, answers(7)),
        1, "2 passed, 1 failed"),
    new Project("a shared test fails", Map.of(OWN, answers(7), SHARED, answers(8), LATER, answers(7)),
        1, "2 passed, 1 failed"),
    new Project("a shared test throws", Map.of(OWN, answers(7), SHARED, "throw new IllegalStateException();"),
        1, "1 passed, 1 failed"),
    new Project("a shared test does not compile", Map.of(OWN, answers(7), SHARED, "new ThreeRings().eight();"),
        1, "1 passed, 1 failed"),
    new Project("a test of the project does not compile", Map.of(OWN, "new ThreeRings().eight();", SHARED, answers(7)),
        1, "the project does not compile"),
    new Project("there is no shared test", Map.of(OWN, answers(7)), 1, "no tests under ../shared/tests"),
  };

  public static void main(String[] args) {
    Command[] ended = new Command[PROJECTS.length];
    Arrays.parallelSetAll(ended, i -> run(PROJECTS[i]));
    for (int i = 0; i < PROJECTS.length; i++) {
      Project p = PROJECTS[i];
      Check.due(p.what() + ": exit code, " + ended[i].output(), ended[i].exit(), p.exit());
      Check.holds(p.what() + ": ends with " + ended[i].lastLine(), ended[i].lastLine().equals(p.lastLine()));
    }
    Check.end("CiTest");
  }

  private static String answers(int due) {
    return "System.exit(new ThreeRings().seven() == " + due + " ? 0 : 1);";
  }

  private static Command run(Project project) {
    try {
      Path room = Files.createTempDirectory("ci");
      try {
        Path main = Files.createDirectories(room.resolve("main"));
        write(main, "src/main/java/ThreeRings.java",
            "public final class ThreeRings { public int seven() { return 7; } }\n");
        for (Map.Entry<String, String> file : project.files().entrySet()) {
          String name = file.getKey().replaceFirst(".*/(\\w+)\\.java", "$1");
          write(main, file.getKey(), "public final class " + name
              + " { public static void main(String[] args) { " + file.getValue() + " } }\n");
        }
        Command.copyAll(Path.of(".ci"), main.resolve(".ci"));
        return Command.run(room, "bash", "main/.ci/run");
      } finally {
        Command.deleteAll(room);
      }
    } catch (IOException e) {
      throw new UncheckedIOException(e);
    }
  }

  private static void write(Path main, String file, String text) throws IOException {
    Path path = main.resolve(file).normalize();
    Files.createDirectories(path.getParent());
    Files.writeString(path, text);
  }
}
