import java.lang.reflect.Field;
import java.lang.reflect.Method;
import java.lang.reflect.Modifier;
import java.nio.file.Files;
import java.nio.file.Path;
import java.util.Set;
import java.util.StringJoiner;
import java.util.TreeSet;
import java.util.regex.Matcher;
import java.util.regex.Pattern;

/** The rules of LANGUAGE.md that can be looked at from outside: the face, forbidden words, lengths. */
public final class LanguageTest {
  public static void main(String[] args) throws Exception {
    String document = Files.readString(Path.of("../shared/DOC.md"));
    face(document);
    Set<String> publicNames = Check.face();
    members(ThreeRings.class, publicNames);
    Class<?>[] inside = ThreeRings.class.getDeclaredClasses();
    Check.holds("at most twelve classes", inside.length <= 11);
    for (Class<?> c : inside) {
      Check.holds(c + " is static", Modifier.isStatic(c.getModifiers()));
      Check.holds(c + " is not public", !Modifier.isPublic(c.getModifiers()));
      members(c, publicNames);
    }
    String whole = Files.readString(Path.of("src/main/java/ThreeRings.java"));
    source(whole);
    groups(document, whole);
    Check.end("LanguageTest");
  }

  /** What the document's face has, and no more: the rows of its block of Java. */
  private static void face(String document) throws Exception {
    String block = document.substring(document.indexOf("public final class ThreeRings {"));
    block = block.substring(0, block.indexOf("```"));
    Check.holds("public and final", Modifier.isPublic(ThreeRings.class.getModifiers())
        && Modifier.isFinal(ThreeRings.class.getModifiers()));
    Set<String> methods = new TreeSet<>();
    Matcher row = Pattern.compile("public int (\\w+)\\(([^)]*)\\);").matcher(block);
    while (row.find()) methods.add(row.group(1) + "(" + row.group(2).replaceAll("(\\w+) \\w+", "$1").replace(" ", "") + ")");
    Check.due("methods", methods.size(), 30);
    Set<String> have = new TreeSet<>();
    for (Method m : ThreeRings.class.getDeclaredMethods()) {
      if (Modifier.isPrivate(m.getModifiers())) continue;
      Check.holds(m + " is public", Modifier.isPublic(m.getModifiers()));
      Check.holds(m + " answers an int", m.getReturnType() == int.class && !Modifier.isStatic(m.getModifiers()));
      StringJoiner types = new StringJoiner(",", m.getName() + "(", ")");
      for (Class<?> p : m.getParameterTypes()) types.add(p.getName());
      have.add(types.toString());
    }
    Check.holds("the face is " + have, have.equals(methods));
    constants(block);
    Check.due("constructors", ThreeRings.class.getDeclaredConstructors().length, 1);
    Check.holds("public constructor without arguments", Modifier.isPublic(ThreeRings.class.getConstructor().getModifiers()));
  }

  private static void constants(String block) throws Exception {
    Set<String> told = new TreeSet<>();
    Matcher constant = Pattern.compile("([A-Z]+) = (-\\d+)").matcher(block);
    while (constant.find()) {
      told.add(constant.group(1));
      Field f = ThreeRings.class.getField(constant.group(1));
      Check.due(constant.group(1), f.getInt(null), Integer.parseInt(constant.group(2)));
      Check.holds(f + " is an int for all", f.getType() == int.class && Modifier.isStatic(f.getModifiers()));
    }
    Set<String> have = new TreeSet<>();
    for (Field f : ThreeRings.class.getDeclaredFields()) {
      if (!Modifier.isPrivate(f.getModifiers())) have.add(f.getName());
    }
    Check.holds("the constants are " + have, have.equals(told) && told.size() == 5);
  }

  /** The document's word ahead of a group of calls stands ahead of just these in the class. */
  private static void groups(String document, String whole) {
    int groups = 0;
    Matcher told = Pattern.compile("Ahead of the calls (.*) the interface says: (---- .*)\\.").matcher(document);
    for (; told.find(); groups++) {
      int from = whole.indexOf("// " + told.group(2) + "\n");
      Check.holds("// " + told.group(2) + " stands in the class", from >= 0);
      if (from < 0) continue;
      int to = Math.max(from, whole.indexOf("// ----", from + 1));
      StringJoiner calls = new StringJoiner("`, `", "`", "`");
      Matcher call = Pattern.compile("\n    public int (\\w+)\\(").matcher(whole.substring(from, to));
      while (call.find()) calls.add(call.group(1));
      Check.holds(told.group(2) + " stands ahead of " + calls, calls.toString().equals(told.group(1)));
    }
    Check.due("groups of calls", groups, 6);
  }

  private static void members(Class<?> c, Set<String> publicNames) {
    int fields = 0;
    for (Field f : c.getDeclaredFields()) {
      if (f.isSynthetic()) continue;
      if (Modifier.isStatic(f.getModifiers())) Check.holds(f + " is final", Modifier.isFinal(f.getModifiers()));
      else fields++;
    }
    Check.holds(c + " has at most twenty fields", fields <= 20);
    for (Method m : c.getDeclaredMethods()) {
      Check.holds(m + " takes at most seven", m.getParameterCount() <= 7);
      boolean ofFace = c == ThreeRings.class && Modifier.isPublic(m.getModifiers());
      if (!ofFace) Check.holds(m + " bears a name of the face", !publicNames.contains(m.getName()));
    }
  }

  private static void source(String whole) {
    String code = whole.replaceAll("(?s)/\\*.*?\\*/", "").replaceAll("//[^\n]*", "");
    for (String word : new String[] {"throw", "throws", "try", "catch", "synchronized", "assert", "package", "native",
        "Object", "hashCode", "toString", "System\\.(?!arraycopy)\\w+", "Random", "Thread"}) {
      Check.holds("no " + word, !Pattern.compile("\\b" + word + "\\b").matcher(code).find());
    }
    for (String sign : new String[] {"->", "::", "Exact(", "@"}) Check.holds("no " + sign, !code.contains(sign));
    Matcher imports = Pattern.compile("import ([^;]*);").matcher(code);
    while (imports.find()) Check.holds(imports.group(1), imports.group(1).equals("java.util.Arrays"));
    Check.holds("only signs 1 to 126", whole.chars().allMatch(s -> s < 127));
    lengths(whole.split("\n"));
  }

  /** A method begins with a line that ends in ') {' one level inside a class, and ends with the brace below it. */
  private static void lengths(String[] lines) {
    for (int i = 0; i < lines.length; i++) {
      Matcher head = Pattern.compile("^( {4}| {8})(?:(?:public|private|static|final) )*[\\w\\[\\]]+ ?\\w*\\(.*\\) \\{$").matcher(lines[i]);
      if (!head.find() || lines[i].trim().matches("(if|for|while|switch|else)\\b.*")) continue;
      int end = i;
      while (end < lines.length && !lines[end].equals(head.group(1) + "}")) end++;
      Check.holds("line " + (i + 1) + " begins a method of at most sixty lines", end - i < 60);
    }
  }
}
