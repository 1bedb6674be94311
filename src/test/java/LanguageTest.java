import java.lang.reflect.Field;
import java.lang.reflect.Method;
import java.lang.reflect.Modifier;
import java.nio.file.Files;
import java.nio.file.Path;
import java.util.Set;
import java.util.TreeSet;
import java.util.regex.Matcher;
import java.util.regex.Pattern;

/** The rules of LANGUAGE.md that can be looked at from outside: the face, forbidden words, lengths. */
public final class LanguageTest {
  private static final String FACE =
      "about(int) again(int) bestBrake(int,int,int,int,int) brake(int,int,int) city() dry(int) fault() gate(int,int)"
          + " harm(int,int,int,int,int) keep(int) latest(int,int,int) likely(int,boolean) meet(int,int)"
          + " next(int,int,int) open(int,int,int) pace(int) pumps(int) round(int,int,int) rows() see(int,int,int)"
          + " share(int,int,boolean) soonest(int,int,int) stays(int,int,int) step(int,int,int,int,int) turn(int,int)"
          + " unsee() where(int,int) wipe() worst(int,int) write(int,long)";

  public static void main(String[] args) throws Exception {
    face();
    Set<String> publicNames = new TreeSet<>();
    for (Method m : ThreeRings.class.getDeclaredMethods()) {
      if (Modifier.isPublic(m.getModifiers())) publicNames.add(m.getName());
    }
    members(ThreeRings.class, publicNames);
    Class<?>[] inside = ThreeRings.class.getDeclaredClasses();
    Check.holds("at most twelve classes", inside.length <= 11);
    for (Class<?> c : inside) {
      Check.holds(c + " is static", Modifier.isStatic(c.getModifiers()));
      Check.holds(c + " is not public", !Modifier.isPublic(c.getModifiers()));
      members(c, publicNames);
    }
    source(Files.readString(Path.of("src/main/java/ThreeRings.java")));
    Check.end("LanguageTest");
  }

  private static void face() {
    Check.holds("public and final", Modifier.isPublic(ThreeRings.class.getModifiers())
        && Modifier.isFinal(ThreeRings.class.getModifiers()));
    Set<String> have = new TreeSet<>();
    for (Method m : ThreeRings.class.getDeclaredMethods()) {
      if (Modifier.isPrivate(m.getModifiers())) continue;
      Check.holds(m + " answers an int", m.getReturnType() == int.class && !Modifier.isStatic(m.getModifiers()));
      StringBuilder row = new StringBuilder(m.getName() + "(");
      for (Class<?> p : m.getParameterTypes()) row.append(row.toString().endsWith("(") ? "" : ",").append(p.getName());
      have.add(row.append(")").toString());
    }
    Check.holds("the face is " + have, String.join(" ", have).equals(FACE));
    Set<String> constants = new TreeSet<>();
    for (Field f : ThreeRings.class.getDeclaredFields()) {
      if (!Modifier.isPrivate(f.getModifiers())) constants.add(f.getName());
    }
    Check.holds("the constants are " + constants, constants.toString().equals("[BAD, FULL, LATE, NONE, UNKNOWN]"));
  }

  private static void members(Class<?> c, Set<String> publicNames) {
    int fields = 0;
    for (Field f : c.getDeclaredFields()) {
      if (f.isSynthetic()) continue;
      if (Modifier.isStatic(f.getModifiers())) Check.holds(f + " is final", Modifier.isFinal(f.getModifiers()));
      else fields++;
    }
    Check.holds(c + " has at most twenty fields", fields <= 20);
    for (Method m : c.getDeclaredMethods()) {
      Check.holds(m + " takes at most seven", m.getParameterCount() <= 7);
      boolean ofFace = c == ThreeRings.class && Modifier.isPublic(m.getModifiers());
      if (!ofFace) Check.holds(m + " bears a name of the face", !publicNames.contains(m.getName()));
    }
  }

  private static void source(String whole) {
    String code = whole.replaceAll("(?s)/\\*.*?\\*/", "").replaceAll("//[^\n]*", "");
    for (String word : new String[] {"throw", "throws", "try", "catch", "synchronized", "assert", "package", "native",
        "Object", "hashCode", "toString", "System\\.(?!arraycopy)\\w+", "Random", "Thread"}) {
      Check.holds("no " + word, !Pattern.compile("\\b" + word + "\\b").matcher(code).find());
    }
    for (String sign : new String[] {"->", "::", "Exact(", "@"}) Check.holds("no " + sign, !code.contains(sign));
    Matcher imports = Pattern.compile("import ([^;]*);").matcher(code);
    while (imports.find()) Check.holds(imports.group(1), imports.group(1).equals("java.util.Arrays"));
    Check.holds("only signs 1 to 126", whole.chars().allMatch(s -> s < 127));
    lengths(whole.split("\n"));
  }

  /** A method begins with a line that ends in ') {' one level inside a class, and ends with the brace below it. */
  private static void lengths(String[] lines) {
    for (int i = 0; i < lines.length; i++) {
      Matcher head = Pattern.compile("^( {4}| {8})(?:(?:public|private|static|final) )*[\\w\\[\\]]+ ?\\w*\\(.*\\) \\{$").matcher(lines[i]);
      if (!head.find() || lines[i].trim().matches("(if|for|while|switch|else)\\b.*")) continue;
      int end = i;
      while (end < lines.length && !lines[end].equals(head.group(1) + "}")) end++;
      Check.holds("line " + (i + 1) + " begins a method of at most sixty lines", end - i < 60);
    }
  }
}
