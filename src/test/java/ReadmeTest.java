import java.io.IOException;
import java.lang.reflect.Field;
import java.nio.charset.StandardCharsets;
import java.nio.file.Files;
import java.nio.file.Path;
import java.util.ArrayList;
import java.util.List;
import java.util.Set;
import java.util.TreeSet;
import java.util.regex.Matcher;
import java.util.regex.Pattern;
import java.util.stream.Stream;

/** What README.md shows is so: its calls answer as it says, its commands run, its names are those of files. */
public final class ReadmeTest {
  private static final Pattern ANSWERED = Pattern.compile("(x\\.(\\w+)\\(.*\\)); +// (-?\\d+): (.*)");

  public static void main(String[] args) throws IOException {
    String readme = Files.readString(Path.of("README.md"));
    List<String> examples = blocks(readme, "java");
    Check.due("blocks of Java", examples.size(), 1);
    for (String example : examples) callsAnswerAsShown(example);
    refusalsAreTheFaces(readme);
    commandsRun(blocks(readme, "sh"));
    namesStand(readme);
    Check.end("ReadmeTest");
  }

  private static List<String> blocks(String readme, String language) {
    List<String> blocks = new ArrayList<>();
    Matcher block = Pattern.compile("(?ms)^```" + language + "\n(.*?)^```$").matcher(readme);
    while (block.find()) blocks.add(block.group(1));
    return blocks;
  }

  /** Compiled and run as a reader would, each answer printed on a line of its own. */
  private static void callsAnswerAsShown(String example) throws IOException {
    StringBuilder program = new StringBuilder("public final class Use { public static void main(String[] args) {\n");
    List<String> calls = new ArrayList<>();
    List<Integer> answers = new ArrayList<>();
    Set<String> shown = new TreeSet<>();
    for (String line : example.lines().toList()) {
      Matcher row = ANSWERED.matcher(line);
      if (!row.matches()) {
        Check.holds(line + " has no call without its answer", line.isEmpty() || line.startsWith("// ")
            || line.equals("ThreeRings x = new ThreeRings();"));
        program.append(line).append('\n');
        continue;
      }
      program.append("System.out.println(").append(row.group(1)).append(");\n");
      calls.add(row.group(1));
      shown.add(row.group(2));
      answers.add(Integer.parseInt(row.group(3)));
      wordsFit(row);
    }
    compare(calls, answers, printed(program.append("} }\n").toString()));
    Check.holds("the calls shown are " + shown, shown.equals(Check.face()));
  }

  private static List<String> printed(String program) throws IOException {
    Path folder = Files.createTempDirectory("readme");
    try {
      Path file = folder.resolve("Use.java");
      Files.writeString(file, program);
      Command use = Command.run(Path.of("."), "java", "-cp", System.getProperty("java.class.path"), file.toString());
      Check.due("the example's exit code, " + use.output(), use.exit(), 0);
      return use.output().lines().toList();
    } finally {
      Command.deleteAll(folder);
    }
  }

  private static void compare(List<String> calls, List<Integer> answers, List<String> printed) {
    Check.due("answers printed", printed.size(), calls.size());
    for (int i = 0; i < calls.size() && i < printed.size(); i++) {
      Check.holds(calls.get(i) + " is shown with " + answers.get(i) + ", but answers " + printed.get(i),
          printed.get(i).equals(String.valueOf(answers.get(i))));
    }
  }

  /** Bytes that are told as a text are that text; an answer that is told by its name has that name. */
  private static void wordsFit(Matcher row) {
    Matcher write = Pattern.compile("x\\.write\\((\\d), 0x([0-9a-f]+)L\\)").matcher(row.group(1));
    if (write.matches()) {
      String text = row.group(4).replaceFirst("^\"([^\"]*)\".*", "$1");
      byte[] bytes = text.getBytes(StandardCharsets.ISO_8859_1);
      Check.due(row.group(1) + ": bytes", bytes.length, Integer.parseInt(write.group(1)));
      Check.due(row.group(1) + ": text", Check.packed(bytes, 0, bytes.length), Long.parseLong(write.group(2), 16));
    }
    if (row.group(3).startsWith("-")) {
      Check.holds(row.group(1) + " has its answer's name",
          row.group(4).startsWith(nameOf(Integer.parseInt(row.group(3))) + ","));
    }
  }

  private static String nameOf(int answer) {
    try {
      for (Field f : ThreeRings.class.getFields()) if (f.getInt(null) == answer) return f.getName();
    } catch (IllegalAccessException e) {
      return "?";
    }
    return "?";
  }

  private static void refusalsAreTheFaces(String readme) {
    int rows = 0;
    Matcher row = Pattern.compile("(?m)^\\| (-\\d) \\| `([A-Z]+)` \\|").matcher(readme);
    for (; row.find(); rows++) Check.holds(row.group(), nameOf(Integer.parseInt(row.group(1))).equals(row.group(2)));
    Check.due("refusals", rows, 4);
    Check.holds("NONE", readme.contains("`NONE` (" + ThreeRings.NONE + ")"));
  }

  /** In a copy, so that what they write stays out of the project; .ci/run has a test of its own. */
  private static void commandsRun(List<String> scripts) throws IOException {
    Check.due("blocks of commands", scripts.size(), 2);
    Check.holds(".ci/run stands alone", scripts.get(0).equals(".ci/run\n") && Files.isExecutable(Path.of(".ci/run")));
    Path room = Files.createTempDirectory("readme");
    try {
      Path copy = room.resolve("main");
      Command.copyAll(Path.of("src"), copy.resolve("src"));
      Command.copyAll(Path.of("../shared"), room.resolve("shared"));
      for (String script : scripts.subList(1, scripts.size())) {
        Command done = Command.run(copy, "bash", "-e", "-c", script);
        Check.due(script + " ends, having said " + done.output(), done.exit(), 0);
        Check.due("tests that ended well", done.output().lines().filter(s -> s.endsWith(" 0 wrong")).count(),
            script.lines().filter(s -> s.startsWith("java ")).count());
      }
    } finally {
      Command.deleteAll(room);
    }
  }

  /** Each test is told of, and each test or file that is told of is there. */
  private static void namesStand(String readme) throws IOException {
    Set<String> tests = new TreeSet<>();
    try (Stream<Path> files = Files.list(Path.of("src/test/java"))) {
      files.map(f -> f.getFileName().toString()).filter(f -> f.endsWith("Test.java"))
          .forEach(f -> tests.add(f.replace(".java", "")));
    }
    Set<String> told = new TreeSet<>();
    Matcher name = Pattern.compile("`(\\w+Test)`").matcher(readme);
    while (name.find()) told.add(name.group(1));
    Check.holds("the tests are " + tests + ", told are " + told, tests.equals(told));
    Matcher path = Pattern.compile("`((?:src|\\.\\./shared|\\.ci)[\\w./]*)`").matcher(readme);
    while (path.find()) Check.holds(path.group(1) + " is there", Files.exists(Path.of(path.group(1))));
  }
}
