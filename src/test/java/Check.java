import java.nio.charset.StandardCharsets;

/** What the tests share: a count of wrong answers, and texts written to an object. */
final class Check {
  private static int wrong = 0;
  private static int asked = 0;

  private Check() {}

  static void due(String what, long got, long want) {
    asked++;
    if (got != want) {
      wrong++;
      if (wrong <= 40) System.out.println(what + " answered " + got + ", due is " + want);
    }
  }

  static void holds(String what, boolean so) {
    due(what, so ? 1 : 0, 1);
  }

  static int wrongSoFar() {
    return wrong;
  }

  /** Writes a text behind what is there, eight bytes at a time. */
  static void tell(ThreeRings x, String text) {
    byte[] bytes = text.getBytes(StandardCharsets.ISO_8859_1);
    for (int i = 0; i < bytes.length; i += 8) {
      int n = Math.min(8, bytes.length - i);
      x.write(n, packed(bytes, i, n));
    }
  }

  static long packed(byte[] bytes, int from, int n) {
    long v = 0;
    for (int k = 0; k < n; k++) v = v << 8 | bytes[from + k] & 255;
    return v;
  }

  static ThreeRings made(String text) {
    ThreeRings x = new ThreeRings();
    tell(x, text);
    int gates = x.city();
    if (gates < 0) due("city of " + text, gates, 0);
    return x;
  }

  static int faultOf(String text) {
    ThreeRings x = new ThreeRings();
    tell(x, text);
    return x.fault();
  }

  static void end(String name) {
    System.out.println(name + ": " + asked + " answers looked at, " + wrong + " wrong");
    if (wrong != 0) System.exit(1);
  }
}
