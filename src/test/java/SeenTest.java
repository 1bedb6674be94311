/** Promises 26 to 31 and the Terms that they rest on: what is seen, the paces that fit it, slots. */
public final class SeenTest {
  private static final int UNKNOWN = Check.UNKNOWN, BAD = Check.BAD, LATE = Check.LATE, FULL = Check.FULL;
  private static final int NONE = Check.NONE;
  /** A gate on each rim, those of rings 0 and 1 half a turn apart. */
  private static final String RIMS = "U2G00000G11060G10030G21000";

  public static void main(String[] args) {
    Sentences.run(SeenTest.class);
  }

  /** How many pairs of paces are apart by d, for each d that fits. */
  private static int pairs(int parts, int apart, int t) {
    int count = 0;
    for (int d = -18; d <= 18; d++) if (Math.floorMod(apart + d * t, parts) == 0) count += 19 - Math.abs(d);
    return count;
  }

  // ---- Terms: SEEN, PACES

  @Sentence(in = "Terms", says = "SEEN are two GATES (of unlike RINGS) and a second at which they were at one place")
  @Broken(in = "private void ruleOut(", code = "plan.place[a] - plan.place[b] + d * t", as = "plan.place[a] - plan.place[b] + d")
  @Broken(in = "private void ruleOut(", code = "plan.place[a] - plan.place[b] + d * t", as = "plan.place[b] - plan.place[a] + d * t")
  @Broken(in = "private void ruleOut(", code = "int a = inOrder ? gate : other;\n            int b = inOrder ? other : gate;", as = "int a = gate;\n int b = other;")
  @Broken(in = "public int see(", code = "plan.ring[gate] == plan.ring[other]", as = "Math.abs(plan.ring[gate] - plan.ring[other]) != 1")
  @Broken(in = "void addSeen(", code = "seenAt[seen] = t;", as = "seenAt[seen] = t % 12;")
  @Broken(in = "void addSeen(", code = "seenOther[seen] = other;", as = "seenOther[seen] = 1;")
  @Broken(in = "void addSeen(", code = "seenGate[seen] = gate;", as = "seenGate[seen] = 0;")
  static void twoGatesAtOnePlace() {
    ThreeRings x = Check.made("U9G00020G11130G21500");
    int[][] both = {{0, 1, 2 - 13}, {1, 0, 2 - 13}, {0, 2, 2 - 50}, {2, 0, 2 - 50}, {1, 2, 13 - 50}, {2, 1, 13 - 50}};
    for (int t = 0; t < 300; t++) {
      for (int[] two : both) {
        Check.due("seen", x.see(two[0], two[1], t), 1);
        Check.due(two[0] + " and " + two[1] + " at " + t, x.rows(), 19 * pairs(54, two[2], t));
        x.unsee();
      }
    }
    // ring 0 is 11 faster than ring 1
    x.see(1, 0, 1);
    range(x, new int[] {2, -9, -9}, new int[] {9, -2, 9});
    Check.due("of one ring", Check.made("U2G11000G10000").see(0, 1, 0), BAD);
  }

  @Sentence(in = "Terms", says = "(KINDS set aside, places as told; no BRAKES), 8 at most.")
  @Broken(in = "private void ruleOut(", code = "plan.place[a] - plan.place[b] + d * t", as = "plan.place[a] + (plan.kind[a] == 3 ? t & 1 : 0) - plan.place[b] + d * t")
  @Broken(in = "private void ruleOut(", code = "plan.place[a] - plan.place[b] + d * t) != 0", as = "plan.place[a] - plan.place[b] + d * t) > (plan.kind[a] == 1 ? 1 : 0)")
  @Broken(in = "void tryAll(", code = "motion.seenAt[i]", as = "Math.max(0, motion.seenAt[i] - motion.brakeLong[0])")
  @Broken(code = "MOST_SEEN = 8", as = "MOST_SEEN = 7")
  @Broken(code = "MOST_SEEN = 8", as = "MOST_SEEN = 9")
  static void kindsAndBrakesSetAside() {
    for (int kind = 0; kind <= 4; kind++) {
      ThreeRings x = Check.made("U2G0000" + kind + "G1101" + kind + "G2100" + (kind + 2) % 5);
      for (int t : new int[] {0, 1, 2, 3, 299}) {
        x.see(0, 1, t);
        Check.due("1 apart, KIND " + kind, x.rows(), 19 * pairs(12, -1, t));
        for (int r = 0; r < 3; r++) x.brake(r, 0, 99);
        Check.due("braked, KIND " + kind, x.rows(), 19 * pairs(12, -1, t));
        for (int r = 0; r < 3; r++) x.brake(r, 0, 0);
        x.unsee();
        x.see(2, 0, t);
        Check.due("at one place, KIND " + kind, x.rows(), 19 * pairs(12, 0, t));
        x.unsee();
      }
    }
    ThreeRings x = Check.made(RIMS);
    for (int n = 1; n <= 8; n++) Check.due("the " + n + "-th", x.see(0, 1, n), n);
    Check.due("no ninth", x.see(0, 1, 9), FULL);
    Check.due("eight", x.about(2), 8);
  }

  @Sentence(in = "Terms", says = "PACES: how many rows of three paces (-9 .. 9 each) fit all that;")
  @Broken(in = "void tryAll(", code = "for (int p = -MOST_PACE; p <= MOST_PACE; p++)", as = "for (int p = 1 - MOST_PACE; p <= MOST_PACE; p++)")
  @Broken(in = "void tryAll(", code = "for (int q = -MOST_PACE; q <= MOST_PACE; q++)", as = "for (int q = -MOST_PACE; q < MOST_PACE; q++)")
  @Broken(in = "void tryInmost(", code = "for (int s = -MOST_PACE; s <= MOST_PACE; s++)", as = "for (int s = 0; s <= MOST_PACE; s++)")
  @Broken(in = "void tryInmost(", code = "fits(0, 2, p - s) &&", as = "")
  @Broken(in = "void tryInmost(", code = "&& fits(1, 2, q - s)", as = "")
  @Broken(in = "void tryAll(", code = "if (fits(0, 1, p - q))", as = "if (true)")
  @Broken(in = "void tryAll(", code = "i < motion.seen &&", as = "i < motion.seen - 1 &&")
  @Broken(in = "Guess {", code = "MOST_APART = 2 * MOST_PACE", as = "MOST_APART = 2 * MOST_PACE - 1")
  static void rowsOfThreePaces() {
    ThreeRings x = Check.made("U2R05G00000G11060G21003");
    Check.due("nothing seen: all", x.rows(), 19 * 19 * 19);
    x.see(0, 1, 3);
    // 3 times the difference is 6, round by 12: differences 2, 6, 10, 14, 18 to either side
    Check.due("one seen", x.rows(), 19 * 2 * (17 + 13 + 9 + 5 + 1));
    x.turn(0, 3);
    Check.due("whatever the pace is", x.rows(), 1710);
    x.see(0, 1, 3);
    Check.due("the same once more", x.rows(), 1710);
    x.see(0, 2, 1);
    int fit = 0;
    for (int p = -9; p <= 9; p++) {
      for (int q = -9; q <= 9; q++) {
        for (int s = -9; s <= 9; s++) {
          if (Math.floorMod(3 * (p - q), 12) == 6 && Math.floorMod(p - s, 12) == 0) fit++;
        }
      }
    }
    Check.due("rings 0 and 1, 0 and 2", x.rows(), fit);
    x.see(2, 1, 0);
    Check.due("not so at second 0", x.rows(), 0);
    // the paces are as far apart as they can be
    ThreeRings far = Check.made("U9G00000G11180G21000");
    far.see(0, 1, 1);
    far.see(1, 2, 1);
    Check.due("one row", far.rows(), 1);
  }

  @Sentence(in = "Terms", says = "of a RING the least, the greatest pace in such rows.")
  @Broken(in = "private void widen(", code = "Math.min(least[ring], pace)", as = "Math.max(least[ring], pace)")
  @Broken(in = "private void widen(", code = "greatest[ring] = Math.max(greatest[ring], pace);", as = "greatest[ring] = pace;")
  @Broken(in = "void tryInmost(", code = "widen(0, p);", as = "widen(0, q);")
  @Broken(in = "void tryInmost(", code = "widen(1, q);", as = "widen(1, s);")
  @Broken(in = "void tryInmost(", code = "widen(2, s);", as = "")
  @Broken(in = "void tryInmost(", code = "p - s", as = "p + s")
  @Broken(in = "void tryInmost(", code = "q - s", as = "q + s")
  @Broken(in = "void tryAll(", code = "Arrays.fill(greatest, -MOST_PACE);", as = "")
  @Broken(in = "void tryAll(", code = "Arrays.fill(least, MOST_PACE);", as = "")
  static void leastAndGreatestOfARing() {
    ThreeRings x = Check.made("U9G00000G11180G21100");
    range(x, new int[] {-9, -9, -9}, new int[] {9, 9, 9});
    x.see(0, 2, 1);
    // ring 0 is 10 faster than ring 2
    range(x, new int[] {1, -9, -9}, new int[] {9, 9, -1});
    x.see(0, 1, 1);
    range(x, new int[] {9, -9, -1}, new int[] {9, -9, -1});
    x.unsee();
    x.see(0, 1, 1);
    range(x, new int[] {9, -9, -9}, new int[] {9, -9, 9});
    x.unsee();
    x.see(1, 2, 1);
    // ring 2 is 8 faster than ring 1
    range(x, new int[] {-9, -9, -1}, new int[] {9, 1, 9});
    // the last rows that are tried do not have the greatest paces of rings 1 and 2
    ThreeRings half = Check.made(RIMS);
    half.see(0, 1, 1);
    half.see(1, 3, 1);
    range(half, new int[] {-9, -9, -9}, new int[] {9, 9, 9});
  }

  private static void range(ThreeRings x, int[] least, int[] greatest) {
    for (int r = 0; r < 3; r++) {
      Check.due("least of " + r, x.likely(r, false), 10 + least[r]);
      Check.due("greatest of " + r, x.likely(r, true), 10 + greatest[r]);
    }
  }

  // ---- Terms: SLOTS

  @Sentence(in = "Terms", says = "SLOTS 0 .. 1 keep paces, BRAKES, what is SEEN.")
  @Broken(in = "void takeFrom(Motion", code = "System.arraycopy(other.pace, 0, pace, 0, RINGS);", as = "")
  @Broken(in = "void takeFrom(Motion", code = "System.arraycopy(other.brakeFrom, 0, brakeFrom, 0, RINGS);", as = "")
  @Broken(in = "void takeFrom(Motion", code = "System.arraycopy(other.brakeLong, 0, brakeLong, 0, RINGS);", as = "")
  @Broken(in = "void takeFrom(Motion", code = "System.arraycopy(other.seenGate, 0, seenGate, 0, MOST_SEEN);", as = "")
  @Broken(in = "void takeFrom(Motion", code = "System.arraycopy(other.seenOther, 0, seenOther, 0, MOST_SEEN);", as = "")
  @Broken(in = "void takeFrom(Motion", code = "System.arraycopy(other.seenAt, 0, seenAt, 0, MOST_SEEN);", as = "")
  @Broken(in = "void takeFrom(Motion", code = "seen = other.seen;", as = "")
  @Broken(in = "private Motion slotAt(", code = "return slot == 1 ? slot1 : null;", as = "return slot == 1 ? slot0 : null;")
  @Broken(in = "private Motion slotAt(", code = "return slot == 1 ? slot1 : null;", as = "return slot == 1 || slot == 2 ? slot1 : null;")
  static void whatSlotsKeep() {
    ThreeRings x = Check.made("U9R01r12R23G00000G11050G21070");
    for (int n = 0; n < 2; n++) {
      for (int r = 0; r < 3; r++) x.brake(r, 10 + r + n, 20 + r + n);
      for (int s = 0; s < 7 + n; s++) x.see(n, 1 + n, 5 + s * n);
      x.keep(n);
      x.unsee();
      for (int r = 0; r < 3; r++) x.turn(r, 5 + r);
    }
    for (int s = 0; s < 8; s++) x.see(2, 0, 9);
    for (int r = 0; r < 3; r++) x.brake(r, 0, 0);
    Check.tell(x, "G00");
    int[][] paces = {{1, -2, 3}, {5, 6, 7}};
    for (int slot : new int[] {1, 0, 1, 0, 0}) {
      Check.due("three are braked", x.again(slot), 3);
      Check.due("so much was seen", x.about(2), 7 + slot);
      int rows = x.rows();
      int[] places = {0, 5, 7};
      for (int r = 0; r < 3; r++) {
        Check.due("pace " + r, x.pace(r), 10 + paces[slot][r]);
        int turns = 60 - 20 - r - slot;
        Check.due("behind the brake", x.where(r, 60), Math.floorMod(places[r] + paces[slot][r] * turns, 54));
        int begin = 10 + r + slot;
        int there = Math.floorMod(places[r] + paces[slot][r] * begin, 54);
        Check.due("where it begins", x.where(r, begin), there);
        Check.due("it stands", x.where(r, begin + 1), there);
        Check.due("how long it is", x.brake(r, 0, 0), 20 + r + slot);
      }
      Check.due("what is seen", rows, slot == 0 ? 19 * pairs(54, -5, 5) : rowsOfSlotOne());
      x.unsee();
      x.turn(0, -9);
    }
    Check.due("THE TEXT is not kept", x.about(3), 32);
    Check.due("no slot 2", x.again(2), UNKNOWN);
  }

  /** Gates 1 and 2 are seen at 5, 6, .. 12. */
  private static int rowsOfSlotOne() {
    int count = 0;
    for (int d = -18; d <= 18; d++) {
      boolean fits = true;
      for (int t = 5; t <= 12; t++) fits &= Math.floorMod(5 - 7 + d * t, 54) == 0;
      if (fits) count += 19 - Math.abs(d);
    }
    return 19 * count;
  }

  // ---- Promises 26 to 29

  @Sentence(in = "Promise 26: see", says = "SEEN: how many there are.")
  @Broken(in = "public int see(", code = "return now.seen;", as = "return 1;")
  @Broken(in = "public int see(", code = "now.addSeen(gate, other, t);", as = "")
  @Broken(in = "void addSeen(", code = "seen++;", as = "seen = Math.min(7, seen + 1);")
  static void see() {
    ThreeRings x = Check.made(RIMS);
    Check.due("rings that are not beside one another", x.see(0, 3, 0), 1);
    Check.due("the same once more", x.see(0, 3, 0), 2);
    Check.due("the other way about", x.see(3, 0, 0), 3);
    Check.due("rims that do not face", x.see(1, 3, 299), 4);
    Check.due("what can not be", x.see(0, 1, 0), 5);
    for (int n = 6; n <= 8; n++) Check.due("the " + n + "-th", x.see(0, 1, n), n);
    Check.due("so many", x.about(2), 8);
  }

  @Sentence(in = "Promise 26: see", says = "UNKNOWN: gates, second; BAD: both are of one RING; FULL: 8.")
  @Broken(in = "public int see(", code = "!areGates(gate, other) || !isSecond(t)", as = "!areGates(gate, other)")
  @Broken(in = "public int see(", code = "!areGates(gate, other) || !isSecond(t)", as = "!areGates(gate, 0) || !isSecond(t)")
  @Broken(in = "public int see(", code = "!areGates(gate, other) || !isSecond(t)", as = "!areGates(0, other) || !isSecond(t)")
  @Broken(in = "public int see(", code = "plan.ring[gate] == plan.ring[other]", as = "gate == other")
  @Broken(in = "public int see(", code = "plan.ring[gate] == plan.ring[other]", as = "plan.ring[gate] == plan.ring[other] && plan.rim[gate] == plan.rim[other]")
  @Broken(in = "public int see(", code = "now.seen >= MOST_SEEN", as = "now.seen > MOST_SEEN")
  @Broken(in = "public int see(", code = "now.seen >= MOST_SEEN", as = "now.seen >= MOST_SEEN - 1")
  @Broken(in = "public int see(", code = "return BAD;", as = "return now.seen == 8 ? FULL : BAD;")
  @Broken(in = "public int see(", code = "return UNKNOWN;", as = "return now.seen == 8 ? FULL : UNKNOWN;")
  @Broken(in = "public int see(", code = "return UNKNOWN;", as = "return gate == other ? BAD : UNKNOWN;")
  static void seeIsRefused() {
    ThreeRings x = Check.made(RIMS);
    for (int n = 0; n <= 8; n++) {
      for (int g : Check.noGates(4)) {
        Check.due("gate " + g, x.see(g, 1, 0), UNKNOWN);
        Check.due("other " + g, x.see(0, g, 0), UNKNOWN);
        Check.due("both " + g, x.see(g, g, 0), UNKNOWN);
      }
      for (int t : Check.NO_SECONDS) {
        Check.due("second " + t, x.see(0, 1, t), UNKNOWN);
        Check.due("second " + t + ", one ring", x.see(1, 2, t), UNKNOWN);
        Check.due("second " + t + ", itself", x.see(1, 1, t), UNKNOWN);
      }
      Check.due("one ring's rims", x.see(1, 2, 0), BAD);
      Check.due("itself", x.see(3, 3, 299), BAD);
      Check.due("nothing more is seen", x.about(2), n);
      Check.due("the next", x.see(0, 1, 299), n < 8 ? n + 1 : FULL);
    }
  }

  @Sentence(in = "Promise 27: unsee", says = "Nothing is SEEN: how much was.")
  @Broken(in = "public int unsee(", code = "now.seen = 0;", as = "")
  @Broken(in = "public int unsee(", code = "return was;", as = "return now.seen;")
  @Broken(in = "public int unsee(", code = "now.seen = 0;", as = "now.seen = Math.max(0, now.seen - 1);")
  @Broken(in = "public int unsee(", code = "now.seen = 0;", as = "now.seen = 0;\n slot0.seen = 0;")
  static void unsee() {
    ThreeRings x = Check.made("U2G00000G11000");
    Check.due("nothing", x.unsee(), 0);
    for (int n = 1; n <= 8; n++) {
      for (int k = 0; k < n; k++) x.see(k % 2, 1 - k % 2, k);
      x.keep(0);
      Check.due(n + " seen", x.unsee(), n);
      Check.due("none any more", x.about(2), 0);
      Check.due("all fit", x.rows(), 6859);
      Check.due("none once more", x.unsee(), 0);
    }
    Check.due("from the first again", x.see(0, 1, 1), 1);
    Check.due("what is kept is kept", x.again(0) + x.about(2), 8);
  }

  @Sentence(in = "Promise 28: rows", says = "PACES: how many rows.")
  @Broken(in = "public int rows(", code = "guess.tryAll(now);", as = "")
  @Broken(in = "public int rows(", code = "return guess.fitting;", as = "return guess.fitting == 0 ? NONE : guess.fitting;")
  @Broken(in = "void tryAll(", code = "fitting = 0;", as = "")
  @Broken(in = "void tryAll(", code = "Arrays.fill(differences, -1L);", as = "")
  static void rows() {
    ThreeRings x = new ThreeRings();
    Check.due("no city", x.rows(), 6859);
    x = Check.made(RIMS);
    Check.due("nothing seen", x.rows(), 6859);
    Check.due("asked again", x.rows(), 6859);
    x.see(0, 1, 0);
    Check.due("none, not NONE", x.rows(), 0);
    x.unsee();
    x.see(0, 3, 0);
    Check.due("what tells nothing", x.rows(), 6859);
    x.see(0, 1, 1);
    Check.due("half a turn apart", x.rows(), 19 * 2 * (13 + 1));
  }

  @Sentence(in = "Promise 29: likely", says = "PACES: the least (greatest = false), the greatest of a RING, and 10;")
  @Broken(in = "public int likely(", code = "greatest ? guess.greatest[ring] : guess.least[ring]", as = "greatest ? guess.least[ring] : guess.greatest[ring]")
  @Broken(in = "public int likely(", code = "+ 10", as = "")
  @Broken(in = "public int likely(", code = "guess.tryAll(now);", as = "")
  @Broken(in = "public int likely(", code = "guess.greatest[ring]", as = "guess.greatest[0]")
  static void likely() {
    ThreeRings x = Check.made("U9G00000G11180G21000");
    range(x, new int[] {-9, -9, -9}, new int[] {9, 9, 9});
    x.see(0, 1, 1);
    range(x, new int[] {9, -9, -9}, new int[] {9, -9, 9});
    x.see(0, 2, 2);
    // twice the difference is 0, round by 54: the same pace alone
    range(x, new int[] {9, -9, 9}, new int[] {9, -9, 9});
  }

  @Sentence(in = "Promise 29: likely", says = "NONE: there is no row.")
  @Broken(in = "public int likely(", code = "if (guess.fitting == 0) {\n            return NONE;\n        }", as = "")
  @Broken(in = "public int likely(", code = "return NONE;", as = "return UNKNOWN;")
  static void likelyWithoutARow() {
    ThreeRings x = Check.made(RIMS);
    x.see(0, 1, 0);
    for (int r = 0; r < 3; r++) {
      Check.due("least of " + r, x.likely(r, false), NONE);
      Check.due("greatest of " + r, x.likely(r, true), NONE);
    }
    x.unsee();
    Check.due("rows again", x.likely(0, true), 19);
  }

  @Sentence(in = "Promise 29: likely", says = "UNKNOWN.")
  @Broken(in = "public int likely(", code = "!isRing(ring)", as = "ring > 2")
  @Broken(in = "public int likely(", code = "!isRing(ring)", as = "ring < 0")
  @Broken(in = "public int likely(", code = "if (!isRing(ring)) {\n            return UNKNOWN;\n        }\n        guess.tryAll(now);", as = "guess.tryAll(now);\n if (!isRing(ring)) {\n return guess.fitting == 0 ? NONE : UNKNOWN;\n }")
  static void likelyIsRefused() {
    ThreeRings x = Check.made(RIMS);
    for (int n = 0; n < 2; n++) {
      for (int r : Check.NO_RINGS) {
        Check.due("ring " + r, x.likely(r, false), UNKNOWN);
        Check.due("ring " + r, x.likely(r, true), UNKNOWN);
      }
      // then ahead of that there is no row
      x.see(0, 1, 0);
    }
  }

  // ---- Promises 30, 31

  @Sentence(in = "Promise 30: keep", says = "They are kept: how many RINGS are BRAKED for some seconds.")
  @Broken(in = "int braked(", code = "brakeLong[r] > 0", as = "brakeLong[r] > 0 && pace[r] != 0")
  @Broken(in = "int braked(", code = "brakeLong[r] > 0", as = "brakeFrom[r] > 0")
  @Broken(in = "int braked(", code = "brakeLong[r] > 0", as = "brakeLong[r] > 1")
  @Broken(in = "public int keep(", code = "return now.braked();", as = "return slot;")
  @Broken(in = "public int keep(", code = "into.takeFrom(now);", as = "if (!into.kept) into.takeFrom(now);")
  @Broken(in = "public int keep(", code = "into.takeFrom(now);", as = "into.takeFrom(now);\n now.clearBrakes();")
  static void keep() {
    ThreeRings x = Check.made("U2R01G00000G11050");
    Check.due("none is braked", x.keep(0), 0);
    x.brake(1, 7, 0);
    Check.due("for no second", x.keep(0), 0);
    x.brake(0, 5, 6);
    Check.due("one is", x.keep(1), 1);
    x.brake(2, 0, 1);
    Check.due("one that stands, for a second", x.keep(1), 2);
    x.brake(1, 99, 99);
    Check.due("all are", x.keep(0), 3);
    Check.due("they are as they were", x.brake(0, 0, 0), 6);
    Check.due("kept instead of what was kept", x.again(0), 3);
    Check.due("the other slot", x.again(1), 2);
    ThreeRings fresh = new ThreeRings();
    Check.due("no city", fresh.keep(1), 0);
    Check.due("no city", fresh.again(1), 0);
  }

  @Sentence(in = "Promise 30: keep", says = "UNKNOWN.")
  @Broken(in = "private Motion slotAt(", code = "return slot == 1 ? slot1 : null;", as = "return slot == 1 || slot == 2 ? slot1 : null;")
  @Broken(in = "private Motion slotAt(", code = "if (slot == 0)", as = "if (slot == 0 || slot == -1)")
  @Broken(in = "public int keep(", code = "return UNKNOWN;", as = "return BAD;")
  static void keepIsRefused() {
    ThreeRings x = Check.made(RIMS);
    for (int slot : Check.NO_SLOTS) Check.due("slot " + slot, x.keep(slot), UNKNOWN);
    Check.due("nothing is kept", x.again(0), LATE);
    Check.due("nothing is kept", x.again(1), LATE);
  }

  @Sentence(in = "Promise 31: again", says = "They are as they were kept: how many RINGS are BRAKED for some seconds.")
  @Broken(in = "public int again(", code = "now.takeFrom(from);\n        return now.braked();", as = "int was = now.braked();\n now.takeFrom(from);\n return was;")
  @Broken(in = "public int again(", code = "now.takeFrom(from);", as = "")
  @Broken(in = "public int again(", code = "return now.braked();", as = "from.kept = false;\n return now.braked();")
  static void again() {
    ThreeRings x = Check.made("U2R01G00000G11050");
    x.brake(0, 5, 6);
    x.brake(2, 7, 1);
    x.see(0, 1, 5);
    x.keep(1);
    for (int n = 0; n < 3; n++) {
      x.turn(0, -3);
      x.turn(1, 4);
      for (int r = 0; r < 3; r++) x.brake(r, 0, r % 2);
      x.see(1, 0, 9);
      Check.due("as it was not", x.about(2), 2);
      Check.due("two are braked", x.again(1), 2);
      Check.due("pace", x.pace(0), 11);
      Check.due("pace", x.pace(1), 10);
      Check.due("seen", x.about(2), 1);
      Check.due("fits", x.rows(), 19 * (18 + 8 + 6));
      Check.due("stands", x.where(0, 11), 5);
      Check.due("goes on", x.where(0, 12), 6);
    }
    Check.due("brake", x.brake(1, 0, 0), 0);
    Check.due("brake", x.brake(2, 0, 0), 1);
  }

  @Sentence(in = "Promise 31: again", says = "UNKNOWN; LATE: none were kept.")
  @Broken(in = "public int again(", code = "if (!from.kept) {\n            return LATE;\n        }", as = "")
  @Broken(in = "public int again(", code = "!from.kept", as = "!slot0.kept")
  @Broken(in = "public int again(", code = "!from.kept", as = "!slot0.kept && !slot1.kept")
  @Broken(in = "public int again(", code = "return UNKNOWN;", as = "return slot0.kept ? UNKNOWN : LATE;")
  @Broken(in = "public int city(", code = "slot1.kept = false;", as = "")
  static void againIsRefused() {
    ThreeRings x = Check.made("U2R01G00000G11050");
    x.turn(0, 5);
    for (int slot : Check.NO_SLOTS) Check.due("slot " + slot, x.again(slot), UNKNOWN);
    Check.due("none kept in 0", x.again(0), LATE);
    Check.due("none kept in 1", x.again(1), LATE);
    Check.due("as it was", x.pace(0), 15);
    x.keep(1);
    Check.due("still none in 0", x.again(0), LATE);
    Check.due("some in 1", x.again(1), 0);
    x.keep(0);
    for (int slot : Check.NO_SLOTS) Check.due("slot " + slot, x.again(slot), UNKNOWN);
    x.city();
    Check.due("gone with the city", x.again(0), LATE);
    Check.due("gone with the city", x.again(1), LATE);
  }
}
