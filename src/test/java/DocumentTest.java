import java.io.IOException;
import java.lang.reflect.Method;
import java.nio.file.Files;
import java.nio.file.Path;
import java.util.BitSet;
import java.util.LinkedHashMap;
import java.util.Map;

/** Each sentence that a test stands for is in the document, and no sentence of the document is left without a test. */
public final class DocumentTest {
  private static final Path DOCUMENT = Path.of("../shared/DOC.md");

  /** What no call answers to: what the whole is, and headings above groups of calls. */
  private static final String[][] WITHOUT_ANSWER = {
    {"What it is", "Three rings that turn: a city on three round platforms, one in another, told as a text with the"
        + " first fault: paces, gates of some kinds; where each gate stands by seconds, which are opposite, when they"
        + " are so next, how long, how much of the time; when told gates meet; ways that go round, wait, go through"
        + " while a join is open: the soonest, each step of it, the latest start, a round of a cart with stops; brakes"
        + " told, the best second for one, what it does to others; how long one must wait at worst, the fewest pumps;"
        + " paces by what was seen opposite what; dry seasons; kept and gone on from."},
    {"What it is", "what later calls answer is free."},
    {"Terms", "Ahead of the calls `write`, `wipe`, `fault`, `city`, `about`, `gate`, `pace`, `turn`, `brake`, `dry`"
        + " the interface says: ---- the city."},
    {"Terms", "Ahead of the calls `where`, `open`, `next`, `stays`, `share`, `meet` the interface says: ---- joins."},
    {"Terms", "Ahead of the calls `soonest`, `step`, `latest`, `round` the interface says: ---- ways."},
    {"Terms", "Ahead of the calls `bestBrake`, `harm`, `worst`, `pumps` the interface says: ---- brakes, pumps."},
    {"Terms", "Ahead of the calls `see`, `unsee`, `rows`, `likely` the interface says: ---- seen."},
    {"Terms", "Ahead of the calls `keep`, `again` the interface says: ---- slots."},
  };

  public static void main(String[] args) throws IOException {
    Map<String, String> parts = parts(Files.readString(DOCUMENT));
    Map<String, BitSet> covered = new LinkedHashMap<>();
    parts.forEach((heading, text) -> covered.put(heading, new BitSet()));
    for (String[] words : WITHOUT_ANSWER) cover(parts, covered, words[0], words[1]);
    for (Class<?> tests : Sentences.TESTS) {
      for (Method test : Sentences.of(tests)) {
        Sentence s = test.getAnnotation(Sentence.class);
        cover(parts, covered, s.in(), s.says());
      }
    }
    int promises = 0;
    for (String heading : parts.keySet()) {
      if (heading.startsWith("Promise ")) promises++;
      String rest = rest(parts.get(heading), covered.get(heading));
      Check.holds(heading + ": no test stands for \"" + rest + "\"", !rest.matches("(?s).*[A-Za-z].*"));
    }
    Check.due("promises", promises, 31);
    Check.end("DocumentTest");
  }

  /** The text under each heading that tests stand for, without the signature of a promise. */
  private static Map<String, String> parts(String document) {
    Map<String, String> parts = new LinkedHashMap<>();
    for (String part : document.split("(?m)^## ")) {
      String heading = part.lines().findFirst().orElse("");
      if (!heading.equals("What it is") && !heading.equals("Terms") && !heading.startsWith("Promise ")) continue;
      String text = part.substring(heading.length()).replaceAll("\\s+", " ").trim();
      if (heading.startsWith("Promise ")) text = text.replaceFirst("^`[^`]*`: ", "");
      parts.put(heading, text.replaceAll("```(text)?", "   "));
    }
    return parts;
  }

  private static void cover(Map<String, String> parts, Map<String, BitSet> covered, String heading, String words) {
    String text = parts.getOrDefault(heading, "");
    int at = text.indexOf(words);
    Check.holds("\"" + words + "\" stands under " + heading, at >= 0);
    Check.holds("\"" + words + "\" stands there once", at == text.lastIndexOf(words));
    if (at >= 0) covered.get(heading).set(at, at + words.length());
  }

  private static String rest(String text, BitSet covered) {
    StringBuilder rest = new StringBuilder();
    for (int i = 0; i < text.length(); i++) if (!covered.get(i)) rest.append(text.charAt(i));
    return rest.toString().trim();
  }
}
