import java.util.ArrayList;
import java.util.List;
import java.util.regex.Pattern;

/**
 * The document's words in the slowest and plainest form: no tables, no folding of time, every order
 * and every set tried. ModelTest holds ThreeRings against it.
 */
final class PlainRings {
  static final int UNKNOWN = -1, BAD = -2, LATE = -3, FULL = -4, NONE = -9;
  private static final Pattern CITY =
      Pattern.compile("U[2-9]([Rr][0-2][0-9]|G(00|10|11|21)[0-9][0-9][0-4])*", Pattern.DOTALL);
  /** Longer than any brake and any way of eight gates behind it can last. */
  private static final int FAR = 1000;

  private String text = "";
  private int u = 12;
  private List<int[]> gates = new ArrayList<>();
  private int[] pace = new int[3];
  private int[] from = new int[3];
  private int[] length = new int[3];
  private List<int[]> seen = new ArrayList<>();
  private final Object[][] slots = new Object[2][];

  int write(int n, long v) {
    if (n < 1 || n > 8) return BAD;
    if (text.length() + n > 60) return FULL;
    StringBuilder more = new StringBuilder();
    for (int i = 0; i < n; i++) {
      more.insert(0, (char) (v & 255));
      v >>= 8;
    }
    text += more;
    return text.length();
  }

  int wipe() {
    int was = text.length();
    text = "";
    return was;
  }

  int fault() {
    for (int i = 0; i < text.length(); i++) {
      if (!canBecomeCity(text.substring(0, i + 1))) return i;
    }
    return isCity(text) ? NONE : text.length();
  }

  /** Cuts up to five bytes off the end and puts each whole part there that begins with them. */
  private static boolean canBecomeCity(String start) {
    if (isCity(start)) return true;
    for (int cut = 1; cut <= 5 && cut <= start.length(); cut++) {
      String head = start.substring(0, start.length() - cut);
      String tail = start.substring(start.length() - cut);
      if (!head.isEmpty() && !isCity(head)) continue;
      for (String part : PARTS) {
        if (part.startsWith(tail) && isCity(head + part)) return true;
      }
    }
    return false;
  }

  private static final List<String> PARTS = parts();

  private static List<String> parts() {
    List<String> all = new ArrayList<>();
    for (int n = 0; n <= 9; n++) {
      all.add("U" + n);
      for (int r = 0; r <= 2; r++) {
        all.add("R" + r + n);
        all.add("r" + r + n);
      }
    }
    for (String rim : new String[] {"00", "10", "11", "21"}) {
      for (int p = 0; p < 54; p++) {
        for (int k = 0; k <= 4; k++) all.add("G" + rim + p / 10 + p % 10 + k);
      }
    }
    return all;
  }

  private static boolean isCity(String s) {
    if (!CITY.matcher(s).matches()) return false;
    int parts = 6 * (s.charAt(1) - '0');
    int[] told = new int[3];
    int count = 0;
    for (int i = 2; i < s.length(); ) {
      if (s.charAt(i) == 'G') {
        if (++count > 8 || Integer.parseInt(s.substring(i + 3, i + 5)) >= parts) return false;
        i += 6;
      } else {
        if (++told[s.charAt(i + 1) - '0'] > 1) return false;
        i += 3;
      }
    }
    return true;
  }

  int city() {
    if (fault() != NONE) return LATE;
    u = 6 * (text.charAt(1) - '0');
    gates = new ArrayList<>();
    pace = new int[3];
    from = new int[3];
    length = new int[3];
    seen = new ArrayList<>();
    slots[0] = null;
    slots[1] = null;
    for (int i = 2; i < text.length(); ) {
      int r = text.charAt(i + 1) - '0';
      if (text.charAt(i) == 'G') {
        int rim = text.charAt(i + 2) - '0';
        gates.add(new int[] {r, rim, Integer.parseInt(text.substring(i + 3, i + 5)), text.charAt(i + 5) - '0'});
        i += 6;
      } else {
        pace[r] = (text.charAt(i) == 'r' ? -1 : 1) * (text.charAt(i + 2) - '0');
        i += 3;
      }
    }
    return gates.size();
  }

  int about(int what) {
    return what == 0 ? u : what == 1 ? gates.size() : what == 2 ? seen.size() : what == 3 ? text.length() : BAD;
  }

  private boolean noGate(int g) {
    return g < 0 || g >= gates.size();
  }

  private boolean noSecond(int t) {
    return t < 0 || t > 299;
  }

  private boolean noRing(int r) {
    return r < 0 || r > 2;
  }

  int gate(int gate, int what) {
    if (noGate(gate)) return UNKNOWN;
    return what < 0 || what > 3 ? BAD : gates.get(gate)[what];
  }

  int pace(int ring) {
    return noRing(ring) ? UNKNOWN : pace[ring] + 10;
  }

  int turn(int ring, int p) {
    if (noRing(ring)) return UNKNOWN;
    if (p < -9 || p > 9) return BAD;
    int was = pace[ring] + 10;
    pace[ring] = p;
    return was;
  }

  int brake(int ring, int s, int d) {
    if (noRing(ring)) return UNKNOWN;
    if (s < 0 || s > 99 || d < 0 || d > 99) return BAD;
    int was = length[ring];
    from[ring] = s;
    length[ring] = d;
    return was;
  }

  int dry(int k) {
    if (k < 0 || k > 9) return BAD;
    int stand = 0;
    for (int r = 0; r < 3; r++) {
      for (int n = 0; n < k; n++) pace[r] -= Integer.signum(pace[r]);
      if (pace[r] == 0) stand++;
    }
    return stand;
  }

  private int placeOf(int gate, int t) {
    int r = gates.get(gate)[0];
    int turns = t;
    for (int second = from[r]; second < from[r] + length[r]; second++) {
      if (second < t) turns--;
    }
    int further = gates.get(gate)[3] == 3 && t % 2 == 1 ? 1 : 0;
    return Math.floorMod(gates.get(gate)[2] + pace[r] * turns + further, u);
  }

  private boolean isOpen(int a, int b, int t) {
    int[] x = gates.get(a);
    int[] y = gates.get(b);
    if (Math.abs(x[0] - y[0]) != 1) return false;
    boolean inwards = x[0] < y[0];
    int[] outer = inwards ? x : y;
    int[] inner = inwards ? y : x;
    if (outer[1] != 0 || inner[1] != 1) return false;
    if (!inwards && (x[3] == 2 || y[3] == 2)) return false;
    if (t % 3 != 0 && (x[3] == 4 || y[3] == 4)) return false;
    int gap = Math.floorMod(placeOf(a, t) - placeOf(b, t), u);
    return gap == 0 || (x[3] == 1 || y[3] == 1) && (gap == 1 || gap == u - 1);
  }

  int where(int gate, int t) {
    return noGate(gate) || noSecond(t) ? UNKNOWN : placeOf(gate, t);
  }

  int open(int gate, int other, int t) {
    if (noGate(gate) || noGate(other) || noSecond(t)) return UNKNOWN;
    return isOpen(gate, other, t) ? 1 : 0;
  }

  int next(int gate, int other, int t) {
    if (noGate(gate) || noGate(other) || noSecond(t)) return UNKNOWN;
    for (int n = t; n < t + FAR; n++) if (isOpen(gate, other, n)) return n;
    return NONE;
  }

  int stays(int gate, int other, int t) {
    if (noGate(gate) || noGate(other) || noSecond(t)) return UNKNOWN;
    for (int n = 0; n < FAR; n++) if (!isOpen(gate, other, t + n)) return n;
    return 999;
  }

  int share(int gate, int other, boolean upper) {
    if (noGate(gate) || noGate(other)) return UNKNOWN;
    int[] were = length;
    length = new int[3];
    int count = 0;
    for (int t = 0; t < u; t++) if (isOpen(gate, other, t)) count++;
    length = were;
    int a = count;
    int b = u;
    while (b != 0) {
      int rest = a % b;
      a = b;
      b = rest;
    }
    return (upper ? count : u) / a;
  }

  int meet(int bits, int t) {
    if (noSecond(t)) return UNKNOWN;
    if (bits < 0 || bits >= 1 << gates.size() || Integer.bitCount(bits) < 2) return BAD;
    for (int n = t; n < t + FAR; n++) {
      int places = 0;
      long which = 0;
      for (int g = 0; g < gates.size(); g++) if ((bits >> g & 1) == 1) which |= 1L << placeOf(g, n);
      places = Long.bitCount(which);
      if (places == 1) return n;
    }
    return NONE;
  }

  private int between(int a, int b) {
    int right = Math.floorMod(gates.get(a)[2] - gates.get(b)[2], u);
    return Math.max(1, Math.min(right, u - right));
  }

  /** Lets the seconds go by one after the other, and notes at which gates one can be first when. */
  private int[] firsts(int gate, int t) {
    int n = gates.size();
    int[] first = new int[n];
    java.util.Arrays.fill(first, NONE);
    List<Integer> coming = new ArrayList<>();
    coming.add(t * 8 + gate);
    int found = 0;
    int end = Math.max(t, 460) + 460;
    for (int second = t; second < end && found < n; second++) {
      for (int i = 0; i < coming.size(); i++) {
        int c = coming.get(i);
        int g = c % 8;
        if (c / 8 != second || first[g] != NONE) continue;
        first[g] = second;
        found++;
        for (int h = 0; h < n; h++) {
          if (h != g && gates.get(h)[0] == gates.get(g)[0]) coming.add((second + between(g, h)) * 8 + h);
        }
      }
      for (int g = 0; g < n; g++) {
        for (int h = 0; h < n; h++) {
          if (first[g] != NONE && first[g] <= second && first[h] == NONE && isOpen(g, h, second)) {
            coming.add((second + 1) * 8 + h);
          }
        }
      }
    }
    return first;
  }

  int soonest(int gate, int t, int other) {
    if (noGate(gate) || noGate(other) || noSecond(t)) return UNKNOWN;
    return firsts(gate, t)[other];
  }

  int step(int gate, int t, int other, int i, int what) {
    if (noGate(gate) || noGate(other) || noSecond(t)) return UNKNOWN;
    if (what != 0 && what != 1) return BAD;
    int[] first = firsts(gate, t);
    if (first[other] == NONE) return NONE;
    List<Integer> steps = new ArrayList<>();
    int at = other;
    steps.add(at);
    while (at != gate) {
      for (int g = 0; g < gates.size(); g++) {
        if (g != at && first[g] != NONE && straight(g, at, first[g], first[at]) == first[at]) {
          at = g;
          break;
        }
      }
      steps.add(0, at);
    }
    if (i < 0 || i >= steps.size()) return NONE;
    return what == 0 ? steps.get(i) : first[steps.get(i)];
  }

  private int straight(int a, int b, int t, int by) {
    if (gates.get(a)[0] == gates.get(b)[0]) return t + between(a, b);
    for (int second = t; second < by; second++) if (isOpen(a, b, second)) return second + 1;
    return NONE;
  }

  int latest(int gate, int other, int by) {
    if (noGate(gate) || noGate(other) || noSecond(by)) return UNKNOWN;
    for (int t = by; t >= 0; t--) {
      int end = firsts(gate, t)[other];
      if (end != NONE && end <= by) return t;
    }
    return NONE;
  }

  int round(int gate, int t, int stops) {
    if (noGate(gate) || noSecond(t)) return UNKNOWN;
    if (stops < 0 || stops >= 1 << gates.size()) return BAD;
    return bestOrder(gate, t, gate, stops & ~(1 << gate));
  }

  private int bestOrder(int at, int t, int home, int stops) {
    int[] first = firsts(at, t);
    if (stops == 0) return first[home];
    int best = NONE;
    for (int g = 0; g < gates.size(); g++) {
      if ((stops >> g & 1) == 0 || first[g] == NONE) continue;
      int end = bestOrder(g, first[g], home, stops & ~(1 << g));
      if (end != NONE && (best == NONE || end < best)) best = end;
    }
    return best;
  }

  private boolean noBestBrake(int ring, int gate, int t, int other) {
    return noRing(ring) || noGate(gate) || noGate(other) || noSecond(t);
  }

  int bestBrake(int ring, int d, int gate, int t, int other) {
    if (noBestBrake(ring, gate, t, other)) return UNKNOWN;
    if (d < 1 || d > 99) return BAD;
    int s0 = from[ring];
    int d0 = length[ring];
    int best = NONE;
    int least = Integer.MAX_VALUE;
    for (int s = t; s <= t + u - 1; s++) {
      from[ring] = s;
      length[ring] = d;
      int end = firsts(gate, t)[other];
      if (end != NONE && end < least) {
        least = end;
        best = s;
      }
    }
    from[ring] = s0;
    length[ring] = d0;
    return best;
  }

  int harm(int ring, int d, int gate, int t, int other) {
    int s = bestBrake(ring, d, gate, t, other);
    if (s < 0) return s;
    int n = gates.size();
    int[][] was = new int[n][];
    for (int g = 0; g < n; g++) was[g] = firsts(g, t);
    int s0 = from[ring];
    int d0 = length[ring];
    from[ring] = s;
    length[ring] = d;
    int count = 0;
    for (int g = 0; g < n; g++) {
      int[] is = firsts(g, t);
      for (int h = 0; h < n; h++) {
        if (h != g && was[g][h] != NONE && (is[h] == NONE || is[h] > was[g][h])) count++;
      }
    }
    from[ring] = s0;
    length[ring] = d0;
    return count;
  }

  int worst(int gate, int other) {
    if (noGate(gate) || noGate(other)) return UNKNOWN;
    int most = 0;
    for (int t = 0; t < u; t++) {
      int end = firsts(gate, t)[other];
      if (end == NONE) return NONE;
      most = Math.max(most, end - t);
    }
    return most;
  }

  int pumps(int s) {
    if (s < 0 || s > 99) return BAD;
    int n = gates.size();
    int[][][] first = new int[n][u][];
    for (int g = 0; g < n; g++) for (int t = 0; t < u; t++) first[g][t] = firsts(g, t);
    for (int few = 1; few <= n; few++) {
      for (int set = 1; set < 1 << n; set++) {
        if (Integer.bitCount(set) == few && serves(first, set, s)) return set;
      }
    }
    return NONE;
  }

  private boolean serves(int[][][] first, int set, int s) {
    for (int t = 0; t < u; t++) {
      for (int h = 0; h < gates.size(); h++) {
        boolean served = false;
        for (int g = 0; g < gates.size(); g++) {
          served |= (set >> g & 1) == 1 && first[g][t][h] != NONE && first[g][t][h] - t <= s;
        }
        if (!served) return false;
      }
    }
    return true;
  }

  int see(int gate, int other, int t) {
    if (noGate(gate) || noGate(other) || noSecond(t)) return UNKNOWN;
    if (gates.get(gate)[0] == gates.get(other)[0]) return BAD;
    if (seen.size() == 8) return FULL;
    seen.add(new int[] {gate, other, t});
    return seen.size();
  }

  int unsee() {
    int was = seen.size();
    seen.clear();
    return was;
  }

  private List<int[]> fittingRows() {
    List<int[]> rows = new ArrayList<>();
    for (int a = -9; a <= 9; a++) {
      for (int b = -9; b <= 9; b++) {
        for (int c = -9; c <= 9; c++) {
          int[] row = {a, b, c};
          if (fitsAll(row)) rows.add(row);
        }
      }
    }
    return rows;
  }

  private boolean fitsAll(int[] row) {
    for (int[] s : seen) {
      int[] x = gates.get(s[0]);
      int[] y = gates.get(s[1]);
      if (Math.floorMod(x[2] + row[x[0]] * s[2], u) != Math.floorMod(y[2] + row[y[0]] * s[2], u)) return false;
    }
    return true;
  }

  int rows() {
    return fittingRows().size();
  }

  int likely(int ring, boolean greatest) {
    if (noRing(ring)) return UNKNOWN;
    int best = NONE;
    for (int[] row : fittingRows()) {
      int p = row[ring] + 10;
      if (best == NONE || (greatest ? p > best : p < best)) best = p;
    }
    return best;
  }

  private int braked() {
    int count = 0;
    for (int d : length) if (d != 0) count++;
    return count;
  }

  int keep(int slot) {
    if (slot < 0 || slot > 1) return UNKNOWN;
    slots[slot] = new Object[] {pace.clone(), from.clone(), length.clone(), new ArrayList<>(seen)};
    return braked();
  }

  int again(int slot) {
    if (slot < 0 || slot > 1) return UNKNOWN;
    Object[] kept = slots[slot];
    if (kept == null) return LATE;
    pace = ((int[]) kept[0]).clone();
    from = ((int[]) kept[1]).clone();
    length = ((int[]) kept[2]).clone();
    seen = new ArrayList<>();
    for (Object row : (List<?>) kept[3]) seen.add((int[]) row);
    return braked();
  }
}
