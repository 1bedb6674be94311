import java.nio.charset.StandardCharsets;
import java.util.Random;

/** Chance runs of calls: ThreeRings must answer each as the plain model of the document does. */
public final class ModelTest {
  private static Random chance;
  private static ThreeRings x;
  private static PlainRings m;
  private static StringBuilder told;
  private static int gates;

  public static void main(String[] args) {
    int runs = args.length > 0 ? Integer.parseInt(args[0]) : 120;
    int first = args.length > 1 ? Integer.parseInt(args[1]) : 0;
    for (int run = first; run < first + runs && Check.wrongSoFar() == 0; run++) oneRun(run);
    joins();
    kindsAndPaces();
    texts();
    Check.end("ModelTest");
  }

  private static void begin(int seed) {
    // seeds beside one another draw alike at first: they are scattered
    chance = new Random((seed + 1) * 0x9E3779B97F4A7C15L);
    x = new ThreeRings();
    m = new PlainRings();
    told = new StringBuilder("seed " + seed + ":");
    gates = 0;
  }

  private static void oneRun(int seed) {
    begin(seed);
    int cities = 1 + chance.nextInt(2);
    for (int c = 0; c < cities; c++) {
      newCity(2 + chance.nextInt(7));
      int calls = 60;
      for (int n = 0; n < calls && Check.wrongSoFar() == 0; n++) {
        if (n % 3 == 0) change(); else ask(chance.nextInt(100));
      }
    }
  }

  private static void same(String call, int got, int want) {
    told.append(' ').append(call).append('=').append(want);
    Check.due(told.toString(), got, want);
  }

  private static void write(String text) {
    byte[] bytes = text.getBytes(StandardCharsets.ISO_8859_1);
    for (int i = 0; i < bytes.length; ) {
      int n = Math.min(1 + chance.nextInt(8), bytes.length - i);
      long v = Check.packed(bytes, i, n);
      if (n < 8) v |= chance.nextLong() << 8 * n;
      same("write(" + n + ", " + v + ")", x.write(n, v), m.write(n, v));
      i += n;
    }
  }

  private static void newCity(int most) {
    same("wipe()", x.wipe(), m.wipe());
    String text = cityText(most);
    told.append(" [").append(text).append("]");
    write(text);
    same("fault()", x.fault(), m.fault());
    gates = m.city();
    same("city()", x.city(), gates);
    gates = Math.max(0, m.about(1));
  }

  /** Few places and small turns, so that gates meet often. */
  private static String cityText(int most) {
    int u = chance.nextInt(3) == 0 ? 2 + chance.nextInt(8) : 2 + chance.nextInt(3);
    StringBuilder text = new StringBuilder("U" + u);
    for (int r = 0; r < 3; r++) {
      if (chance.nextInt(5) > 0) text.append(chance.nextBoolean() ? 'R' : 'r').append(r).append(chance.nextInt(10));
    }
    String[] rims = {"00", "11", "10", "21"};
    for (int g = 0; g < most; g++) {
      int place = chance.nextInt(6 * u);
      int kind = chance.nextInt(3) == 0 ? 0 : chance.nextInt(5);
      String rim = rims[chance.nextInt(3) == 0 ? chance.nextInt(2) : chance.nextInt(4)];
      text.append('G').append(rim).append(place / 10).append(place % 10).append(kind);
    }
    return text.toString();
  }

  private static int extreme() {
    int[] all = {Integer.MIN_VALUE, Integer.MIN_VALUE + 1, -300, 256, 1 << 30, Integer.MAX_VALUE - 1, Integer.MAX_VALUE};
    return all[chance.nextInt(all.length)];
  }

  private static int someGate() {
    if (chance.nextInt(150) == 0) return extreme();
    return chance.nextInt(40) == 0 ? chance.nextInt(12) - 2 : chance.nextInt(Math.max(1, gates));
  }

  private static int someRing() {
    if (chance.nextInt(100) == 0) return extreme();
    return chance.nextInt(40) == 0 ? chance.nextInt(6) - 2 : chance.nextInt(3);
  }

  private static int someSecond() {
    if (chance.nextInt(150) == 0) return extreme();
    int sort = chance.nextInt(20);
    if (sort == 0) return chance.nextInt(3) - 1;
    if (sort == 1) return 298 + chance.nextInt(4);
    return sort < 10 ? chance.nextInt(40) : chance.nextInt(300);
  }

  private static int someBits() {
    if (chance.nextInt(60) == 0) return extreme();
    return chance.nextInt(30) == 0 ? chance.nextInt() : chance.nextInt(1 << Math.max(1, gates));
  }

  private static int near(int low, int high) {
    if (chance.nextInt(60) == 0) return extreme();
    return low - 1 + chance.nextInt(high - low + 3);
  }

  private static void change() {
    int r = someRing();
    int a = near(-9, 9);
    int s = chance.nextInt(4) == 0 ? near(0, 99) : chance.nextInt(20);
    int d = chance.nextInt(4) == 0 ? 0 : near(0, 99);
    int slot = chance.nextInt(12) == 0 ? chance.nextInt(5) - 2 : chance.nextInt(2);
    switch (chance.nextInt(9)) {
      case 0: same("turn(" + r + ", " + a + ")", x.turn(r, a), m.turn(r, a)); break;
      case 1:
      case 2: same("brake(" + r + ", " + s + ", " + d + ")", x.brake(r, s, d), m.brake(r, s, d)); break;
      case 3: {
        int k = chance.nextInt(3) == 0 ? near(0, 9) : chance.nextInt(2);
        same("dry(" + k + ")", x.dry(k), m.dry(k));
        break;
      }
      case 4: same("keep(" + slot + ")", x.keep(slot), m.keep(slot)); break;
      case 5: same("again(" + slot + ")", x.again(slot), m.again(slot)); break;
      case 6:
      case 7: {
        int g = someGate();
        int h = someGate();
        int t = someSecond();
        same("see(" + g + ", " + h + ", " + t + ")", x.see(g, h, t), m.see(g, h, t));
        break;
      }
      default:
        if (chance.nextInt(5) == 0) same("unsee()", x.unsee(), m.unsee());
        else same("rows()", x.rows(), m.rows());
    }
  }

  private static void ask(int sort) {
    int g = someGate();
    int h = someGate();
    int t = someSecond();
    String two = g + ", " + h;
    boolean flag = chance.nextBoolean();
    if (sort < 4) same("where(" + g + ", " + t + ")", x.where(g, t), m.where(g, t));
    else if (sort < 10) same("open(" + two + ", " + t + ")", x.open(g, h, t), m.open(g, h, t));
    else if (sort < 20) same("next(" + two + ", " + t + ")", x.next(g, h, t), m.next(g, h, t));
    else if (sort < 28) same("stays(" + two + ", " + t + ")", x.stays(g, h, t), m.stays(g, h, t));
    else if (sort < 32) same("share(" + two + ", " + flag + ")", x.share(g, h, flag), m.share(g, h, flag));
    else if (sort < 38) {
      int bits = flag ? 1 << (g & 7) | 1 << (h & 7) : someBits();
      same("meet(" + bits + ", " + t + ")", x.meet(bits, t), m.meet(bits, t));
    } else if (sort < 50) same("soonest(" + g + ", " + t + ", " + h + ")", x.soonest(g, t, h), m.soonest(g, t, h));
    else if (sort < 60) {
      int i = near(0, 4);
      int what = chance.nextInt(20) == 0 ? near(0, 1) : chance.nextInt(2);
      same("step(" + g + ", " + t + ", " + h + ", " + i + ", " + what + ")", x.step(g, t, h, i, what),
          m.step(g, t, h, i, what));
    } else if (sort < 66) same("latest(" + two + ", " + t + ")", x.latest(g, h, t), m.latest(g, h, t));
    else if (sort < 72) {
      int stops = gates > 5 && chance.nextInt(20) != 0 ? someBits() & 0x55 : someBits();
      same("round(" + g + ", " + t + ", " + stops + ")", x.round(g, t, stops), m.round(g, t, stops));
    } else if (sort < 85) askBrake(g, t, h);
    else if (sort < 90) same("worst(" + two + ")", x.worst(g, h), m.worst(g, h));
    else if (sort < 92) {
      int s = near(0, 99);
      same("pumps(" + s + ")", x.pumps(s), m.pumps(s));
    } else if (sort < 96) {
      int r = someRing();
      same("likely(" + r + ", " + flag + ")", x.likely(r, flag), m.likely(r, flag));
    } else askPlain();
  }

  private static void askBrake(int g, int t, int h) {
    int r = someRing();
    int d = chance.nextInt(3) == 0 ? near(1, 99) : 1 + chance.nextInt(20);
    String call = "(" + r + ", " + d + ", " + g + ", " + t + ", " + h + ")";
    if (chance.nextBoolean()) same("bestBrake" + call, x.bestBrake(r, d, g, t, h), m.bestBrake(r, d, g, t, h));
    else same("harm" + call, x.harm(r, d, g, t, h), m.harm(r, d, g, t, h));
  }

  private static void askPlain() {
    int what = near(0, 3);
    int g = someGate();
    int r = someRing();
    same("about(" + what + ")", x.about(what), m.about(what));
    same("gate(" + g + ", " + what + ")", x.gate(g, what), m.gate(g, what));
    same("pace(" + r + ")", x.pace(r), m.pace(r));
    same("fault()", x.fault(), m.fault());
  }

  /** Every pair of gates of many small cities, at every second of some turns. */
  private static void joins() {
    for (int seed = 0; seed < 800 && Check.wrongSoFar() == 0; seed++) {
      begin(seed);
      newCity(2 + chance.nextInt(4));
      for (int n = 0; n < 3; n++) change();
      int from = chance.nextInt(3) * 100;
      for (int g = 0; g < gates; g++) {
        for (int h = 0; h < gates; h++) joinsOf(g, h, from, Math.min(300, from + 56));
      }
    }
  }

  private static void joinsOf(int g, int h, int from, int to) {
    for (int t = from; t < to; t++) {
      int got = x.open(g, h, t);
      int want = m.open(g, h, t);
      if (got != want) same("open(" + g + ", " + h + ", " + t + ")", got, want);
      int gotNext = t % 7 == 0 ? x.next(g, h, t) : 0;
      int wantNext = t % 7 == 0 ? m.next(g, h, t) : 0;
      if (gotNext != wantNext) same("next(" + g + ", " + h + ", " + t + ")", gotNext, wantNext);
    }
  }

  /** Two gates of all kinds, all places apart, many paces, for a whole turn of the smallest city. */
  private static void kindsAndPaces() {
    for (int c = 0; c < 2 * 12 * 25 && Check.wrongSoFar() == 0; c++) {
      begin(c);
      String outer = c % 2 == 0 ? "G0000" : "G0011";
      int place = c / 2 % 12;
      write("U2" + outer + c / 24 % 5 + "G11" + place / 10 + place % 10 + c / 120 % 5);
      same("city()", x.city(), m.city());
      for (int p = -9; p <= 9; p++) {
        for (int q : new int[] {-5, -1, 0, 1, 7}) {
          x.turn(0, p);
          m.turn(0, p);
          x.turn(1, q);
          m.turn(1, q);
          told.setLength(0);
          told.append("city ").append(c).append(" paces ").append(p).append(' ').append(q);
          joinsOf(0, 1, 0, 12);
          joinsOf(1, 0, 0, 12);
        }
      }
    }
  }

  /** Texts with a sign changed, dropped or put in, cut off, or too long. */
  private static void texts() {
    for (int seed = 0; seed < 1500 && Check.wrongSoFar() == 0; seed++) {
      begin(seed);
      StringBuilder text = new StringBuilder(cityText(chance.nextInt(10)));
      String signs = "URrG00112345689:/ \u00ff";
      int edits = chance.nextInt(3);
      for (int e = 0; e < edits; e++) {
        int at = chance.nextInt(text.length());
        char sign = signs.charAt(chance.nextInt(signs.length()));
        int sort = chance.nextInt(4);
        if (sort == 0) text.setCharAt(at, sign);
        else if (sort == 1) text.insert(at, sign);
        else if (sort == 2 && text.length() > 1) text.deleteCharAt(at);
        else text.append("R").append(chance.nextInt(4));
      }
      if (chance.nextInt(3) == 0) text.setLength(chance.nextInt(text.length() + 1));
      told.append(" [").append(text).append("]");
      write(text.toString());
      same("fault()", x.fault(), m.fault());
      same("city()", x.city(), m.city());
      for (int what = 0; what < 4; what++) same("about(" + what + ")", x.about(what), m.about(what));
      for (int r = 0; r < 3; r++) same("pace(" + r + ")", x.pace(r), m.pace(r));
      for (int g = 0; g < 8; g++) {
        for (int what = 0; what < 4; what++) same("gate(" + g + ", " + what + ")", x.gate(g, what), m.gate(g, what));
      }
    }
  }
}
