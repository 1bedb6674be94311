import java.lang.reflect.Method;
import java.lang.reflect.Modifier;
import java.nio.charset.StandardCharsets;
import java.util.Set;
import java.util.TreeSet;

/** What the tests share: a count of wrong answers, texts written to an object, arguments that are refused. */
final class Check {
  static final int UNKNOWN = -1, BAD = -2, LATE = -3, FULL = -4, NONE = -9;
  static final int[] NO_RINGS = {-1, 3, Integer.MIN_VALUE, Integer.MAX_VALUE};
  static final int[] NO_SECONDS = {-1, 300, Integer.MIN_VALUE, Integer.MAX_VALUE};
  static final int[] NO_SLOTS = {-1, 2, Integer.MIN_VALUE, Integer.MAX_VALUE};

  private static int wrong = 0;
  private static int asked = 0;
  private static boolean quiet = false;
  private static String sentence = "";

  private Check() {}

  /** The sentence that is told with each wrong answer from now on. */
  static void standFor(String words) {
    sentence = "[" + words + "] ";
  }

  static void beQuiet() {
    quiet = true;
  }

  static void due(String what, long got, long want) {
    asked++;
    if (got != want) {
      wrong++;
      if (wrong <= 40 && !quiet) System.out.println(sentence + what + " answered " + got + ", due is " + want);
    }
  }

  static void holds(String what, boolean so) {
    due(what, so ? 1 : 0, 1);
  }

  static int wrongSoFar() {
    return wrong;
  }

  static int askedSoFar() {
    return asked;
  }

  /** The names of the class's public methods. */
  static Set<String> face() {
    Set<String> names = new TreeSet<>();
    for (Method m : ThreeRings.class.getDeclaredMethods()) {
      if (Modifier.isPublic(m.getModifiers())) names.add(m.getName());
    }
    return names;
  }

  /** Numbers of which none is a gate of a city that has so many. */
  static int[] noGates(int gates) {
    return new int[] {-1, gates, 8, 99, Integer.MIN_VALUE, Integer.MAX_VALUE};
  }

  /** Bits of which none is a set of gates of a city that has so many. */
  static int[] noBits(int gates) {
    return new int[] {1 << gates, 1 << gates | 3, 256, 1 << 30, -1, Integer.MIN_VALUE, Integer.MIN_VALUE + 3,
        Integer.MAX_VALUE};
  }

  /** Writes a text behind what is there, eight bytes at a time. */
  static void tell(ThreeRings x, String text) {
    byte[] bytes = text.getBytes(StandardCharsets.ISO_8859_1);
    for (int i = 0; i < bytes.length; i += 8) {
      int n = Math.min(8, bytes.length - i);
      x.write(n, packed(bytes, i, n));
    }
  }

  static long packed(byte[] bytes, int from, int n) {
    long v = 0;
    for (int k = 0; k < n; k++) v = v << 8 | bytes[from + k] & 255;
    return v;
  }

  static String twoFigures(int n) {
    return "" + n / 10 + n % 10;
  }

  static ThreeRings made(String text) {
    ThreeRings x = new ThreeRings();
    tell(x, text);
    int gates = x.city();
    if (gates < 0) due("city of " + text, gates, 0);
    return x;
  }

  static int faultOf(String text) {
    ThreeRings x = new ThreeRings();
    tell(x, text);
    return x.fault();
  }

  static void end(String name) {
    System.out.println(name + ": " + asked + " answers looked at, " + wrong + " wrong");
    if (wrong != 0) System.exit(1);
  }
}
