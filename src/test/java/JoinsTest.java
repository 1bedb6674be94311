/** Promises 12 to 17 and the Terms that they rest on: where gates are, which are opposite, when, how long. */
public final class JoinsTest {
  private static final int UNKNOWN = Check.UNKNOWN, BAD = Check.BAD, NONE = Check.NONE;
  /** Rings 0 inner, 1 outer, 1 inner, 2 outer, all at place 5; all stand. */
  private static final String FOUR_RIMS = "U2G00050G11050G10050G21050";
  /** Ring 0 has turned by 5 when they are opposite. */
  private static final String TURNING = "U2R01G00000G11050";

  public static void main(String[] args) {
    Sentences.run(JoinsTest.class);
  }

  // ---- Terms: where a gate is

  @Sentence(in = "Terms", says = "A GATE is at second t at its place, and its RING's pace (less than 0 to the left) times the seconds ahead of t in which that turns, round by U;")
  @Broken(in = "void lay(", code = "plan.wrap(motion.pace[r])", as = "plan.wrap(Math.abs(motion.pace[r]))")
  @Broken(in = "int placeAt(", code = "plan.place[gate] + turned", as = "turned")
  @Broken(in = "int placeAt(", code = "SPAN * plan.ring[gate] + i", as = "i")
  @Broken(in = "int fold(", code = "return steady + (t - steady) % period;", as = "return steady + t % period;")
  @Broken(in = "int fold(", code = "return steady + (t - steady) % period;", as = "return span - 1;")
  @Broken(in = "void lay(", code = "steady = Math.max(steady, motion.brakeFrom[r] + motion.brakeLong[r]);", as = "steady = motion.brakeFrom[r] + motion.brakeLong[r];")
  @Broken(in = "void layRing(", code = "t < from || t >= from + seconds", as = "t + 1 < from || t + 1 >= from + seconds")
  static void whereAGateIs() {
    for (int u : new int[] {2, 5, 9}) {
      int last = 6 * u - 1;
      ThreeRings x = Check.made("U" + u + "G00000G11" + last / 10 + last % 10 + "0G21070");
      int[] places = {0, last, 7};
      for (int p = -9; p <= 9; p++) {
        for (int r = 0; r < 3; r++) x.turn(r, p);
        x.brake(0, 0, 0);
        x.brake(1, 20 + p, 41);
        x.brake(2, 0, 10 + p);
        for (int t = 0; t < 300; t++) {
          int[] turns = {t, t - Math.max(0, Math.min(t - 20 - p, 41)), t - Math.min(t, 10 + p)};
          for (int g = 0; g < 3; g++) {
            Check.due("gate " + g + " at " + t, x.where(g, t), Math.floorMod(places[g] + p * turns[g], 6 * u));
          }
        }
      }
    }
  }

  @Sentence(in = "Terms", says = "one of KIND 3 is 1 further in odd seconds.")
  @Broken(in = "int placeAt(", code = "== 3 ? i & 1 : 0", as = "== 3 ? i & 1 ^ 1 : 0")
  @Broken(in = "int placeAt(", code = "== 3 ? i & 1 : 0", as = "== 3 ? -(i & 1) : 0")
  @Broken(in = "int placeAt(", code = "== 3 ? i & 1 : 0", as = "== 4 ? i & 1 : 0")
  @Broken(in = "int placeAt(", code = "== 3 ? i & 1 : 0", as = "== 3 ? (turned[SPAN * plan.ring[gate] + i] & 1) : 0")
  @Broken(code = "oddAhead[pairs] = (plan.kind[outer] == 3 ? 1 : 0)", as = "oddAhead[pairs] = (plan.kind[outer] == 3 ? -1 : 0)")
  @Broken(code = "- (plan.kind[inner] == 3 ? 1 : 0)", as = "+ (plan.kind[inner] == 3 ? 1 : 0)")
  @Broken(in = "boolean openAt(", code = "(i & 1) != 0", as = "(i & 1) == 0")
  @Broken(in = "void layRing(", code = "at >= plan.parts", as = "at > plan.parts")
  static void kindThreeIsFurtherInOddSeconds() {
    for (int kind = 0; kind <= 4; kind++) {
      ThreeRings x = Check.made("U2r15G0011" + kind + "G1000" + kind);
      x.brake(1, 7, 2);
      for (int t = 0; t < 300; t++) {
        int further = kind == 3 ? t % 2 : 0;
        Check.due("standing, past the last part", x.where(0, t), (11 + further) % 12);
        int turns = t <= 7 ? t : Math.max(7, t - 2);
        Check.due("to the left, braked", x.where(1, t), Math.floorMod(-5 * turns + further, 12));
      }
    }
    ThreeRings outer = Check.made("U2G00113G11000G11110");
    ThreeRings inner = Check.made("U2G11113G00000G00110");
    for (int t = 0; t < 40; t++) {
      Check.due("the outer one opposite in odd seconds", outer.open(0, 1, t), t % 2);
      Check.due("the outer one opposite in even seconds", outer.open(0, 2, t), 1 - t % 2);
      Check.due("the inner one opposite in odd seconds", inner.open(0, 1, t), t % 2);
      Check.due("the inner one opposite in even seconds", inner.open(0, 2, t), 1 - t % 2);
    }
    Check.due("a whole turn, and 1 past the last part", Check.made("U2R04G00113G11000").open(0, 1, 3), 1);
    ThreeRings both = Check.made("U2G00053G11053");
    Check.due("both are", both.stays(0, 1, 0), 999);
  }

  // ---- Terms: which gates are opposite

  @Sentence(in = "Terms", says = "OPPOSITE are GATES of RINGS beside one another, the outer one's on its inner rim, the inner one's on its outer rim,")
  @Broken(in = "void pairUp(", code = "plan.ring[a] + 1 == plan.ring[b]", as = "plan.ring[a] < plan.ring[b]")
  @Broken(in = "void pairUp(", code = "&& plan.rim[a] == 0", as = "")
  @Broken(in = "void pairUp(", code = "&& plan.rim[b] == 1", as = "")
  @Broken(code = "MOST_PAIRS = 16", as = "MOST_PAIRS = 15")
  @Broken(in = "void addPair(", code = "pairOf[MOST_GATES * inner + outer] = pairs;", as = "")
  static void oppositeAreRimsThatFace() {
    ThreeRings x = Check.made(FOUR_RIMS);
    int[][] want = {{0, 1, 0, 0}, {1, 0, 0, 0}, {0, 0, 0, 1}, {0, 0, 1, 0}};
    for (int g = 0; g < 4; g++) {
      for (int h = 0; h < 4; h++) Check.due("open " + g + " " + h, x.open(g, h, 7), want[g][h]);
    }
    // eight gates make no more pairs
    ThreeRings most = Check.made("U2" + "G10070".repeat(4) + "G21070".repeat(4));
    for (int g = 0; g < 8; g++) {
      for (int h = 0; h < 8; h++) Check.due("pair " + g + " " + h, most.open(g, h, 1), g < 4 == h < 4 ? 0 : 1);
    }
  }

  @Sentence(in = "Terms", says = "whose places are the same;")
  @Broken(in = "boolean openAt(", code = "far <= 2 * slack[join]", as = "far <= 2 * slack[join] + 1")
  @Broken(in = "boolean openAt(", code = "far += plan.parts;", as = "far += 0;")
  @Broken(in = "boolean openAt(", code = "far -= plan.parts;", as = "far -= 0;")
  @Broken(in = "boolean openAt(", code = "far >= plan.parts", as = "far > plan.parts")
  @Broken(in = "boolean openAt(", code = "turned[outer] - turned[outer + SPAN]", as = "turned[outer] + turned[outer + SPAN]")
  static void oppositeAtTheSamePlace() {
    for (int apart = 0; apart < 12; apart++) {
      String inner = "G11" + Check.twoFigures(apart) + "0";
      for (int p = -9; p <= 9; p++) {
        ThreeRings x = Check.made("U2G00000" + inner);
        x.turn(0, p);
        x.turn(1, 5 * p % 10);
        for (int t = 0; t < 24; t++) {
          int same = x.where(0, t) == x.where(1, t) ? 1 : 0;
          Check.due("inwards, " + apart + " by " + p + " at " + t, x.open(0, 1, t), same);
          Check.due("outwards, " + apart + " by " + p + " at " + t, x.open(1, 0, t), same);
        }
      }
    }
  }

  @Sentence(in = "Terms", says = "if one of them is of KIND 1, also if they are 1 apart (round by U).")
  @Broken(code = "plan.kind[outer] == 1 || plan.kind[inner] == 1 ? 1 : 0", as = "plan.kind[outer] == 1 && plan.kind[inner] == 1 ? 1 : 0")
  @Broken(code = "plan.kind[outer] == 1 || plan.kind[inner] == 1 ? 1 : 0", as = "plan.kind[outer] == 1 ? 1 : 0")
  @Broken(code = "plan.kind[outer] == 1 || plan.kind[inner] == 1 ? 1 : 0", as = "plan.kind[inner] == 1 ? 1 : 0")
  @Broken(code = "plan.kind[outer] == 1 || plan.kind[inner] == 1 ? 1 : 0", as = "(plan.kind[outer] == 1 ? 1 : 0) + (plan.kind[inner] == 1 ? 1 : 0)")
  @Broken(in = "void addPair(", code = "plan.place[inner] + slack[pairs])", as = "plan.place[inner])")
  static void kindOneIsOppositeOneApart() {
    for (int outer = 0; outer <= 4; outer++) {
      for (int inner = 0; inner <= 4; inner++) {
        for (int apart = 0; apart < 12; apart++) {
          ThreeRings x = Check.made("U2G0000" + outer + "G11" + Check.twoFigures(apart) + inner);
          boolean near = apart == 1 || apart == 11;
          boolean want = apart == 0 || near && (outer == 1 || inner == 1);
          String name = outer + " and " + inner + ", " + apart + " apart";
          Check.due(name, x.open(0, 1, 0), want ? 1 : 0);
        }
      }
    }
    // both KIND 1 and KIND 3 move the places past the last part
    Check.due("KIND 3 outside, KIND 1 inside", Check.made("U2r01G00113G11001").open(0, 1, 1), 1);
    Check.due("KIND 1 outside, KIND 3 inside", Check.made("U2R01G00001G11103").open(0, 1, 11), 1);
    Check.due("KIND 1 outside, KIND 3 inside, left", Check.made("U2r01G00001G11113").open(0, 1, 1), 1);
    Check.due("the inner one turns", Check.made("U2r11G00003G11111").open(0, 1, 11), 1);
  }

  // ---- Terms: joins

  @Sentence(in = "Terms", says = "A JOIN from a GATE to another one is OPEN at t, if they are OPPOSITE, and:")
  @Broken(in = "int joinOf(", code = "if (outwards && (plan.kind[from] == 2 || plan.kind[to] == 2))", as = "if (outwards)")
  @Broken(in = "int joinOf(", code = "if (outwards && (plan.kind[from] == 2 || plan.kind[to] == 2))", as = "if (!outwards && plan.kind[from] != 2)")
  @Broken(in = "boolean isOpen(", code = "openAt(join, fold(t))", as = "openAt(join, 0)")
  static void aJoinIsOpenIfOpposite() {
    for (int kind : new int[] {0, 1, 3}) {
      ThreeRings x = Check.made("U2R01G0000" + kind + "G11050");
      for (int t = 0; t < 300; t++) {
        int apart = Math.floorMod(x.where(0, t) - x.where(1, t), 12);
        int want = apart == 0 || kind == 1 && (apart == 1 || apart == 11) ? 1 : 0;
        Check.due("inwards at " + t, x.open(0, 1, t), want);
        Check.due("outwards at " + t, x.open(1, 0, t), want);
      }
    }
  }

  @Sentence(in = "Terms", says = "no GATE of KIND 2 is gone through from within outwards;")
  @Broken(in = "int joinOf(", code = "plan.kind[from] == 2 || plan.kind[to] == 2", as = "plan.kind[from] == 2")
  @Broken(in = "int joinOf(", code = "plan.kind[from] == 2 || plan.kind[to] == 2", as = "plan.kind[to] == 2")
  @Broken(in = "int joinOf(", code = "plan.kind[from] == 2 || plan.kind[to] == 2", as = "plan.kind[from] == 2 && plan.kind[to] == 2")
  @Broken(in = "int joinOf(", code = "outwards && (", as = "(")
  @Broken(in = "int joinOf(", code = "outwards && (", as = "!outwards && (")
  static void kindTwoIsNotGoneThroughOutwards() {
    for (String rims : new String[] {"00 11", "10 21"}) {
      for (int outer = 0; outer <= 4; outer++) {
        for (int inner = 0; inner <= 4; inner++) {
          String text = "U2G" + rims.substring(0, 2) + "05" + outer + "G" + rims.substring(3) + "05" + inner;
          ThreeRings x = Check.made(text);
          int want = outer == 2 || inner == 2 ? 0 : 1;
          Check.due("inwards: " + text, x.open(0, 1, 0), 1);
          Check.due("outwards: " + text, x.open(1, 0, 0), want);
          Check.due("outwards, ever: " + text, x.next(1, 0, 0), want == 1 ? 0 : NONE);
        }
      }
    }
  }

  @Sentence(in = "Terms", says = "a GATE of KIND 4 only at seconds that 3 goes into.")
  @Broken(in = "void addPair(", code = "plan.kind[outer] == 4 || plan.kind[inner] == 4", as = "plan.kind[outer] == 4")
  @Broken(in = "void addPair(", code = "plan.kind[outer] == 4 || plan.kind[inner] == 4", as = "plan.kind[inner] == 4")
  @Broken(in = "boolean openAt(", code = "i % 3 != 0", as = "i % 3 != 1")
  @Broken(in = "boolean openAt(", code = "i % 3 != 0", as = "i % 3 == 0")
  @Broken(in = "boolean openAt(", code = "i % 3 != 0", as = "(i % 3 != 0 || i == 0)")
  @Broken(in = "int fold(", code = "return steady + (t - steady) % period;", as = "return steady + (t - steady + 1) % period;")
  static void kindFourAtSecondsOfThree() {
    for (String kinds : new String[] {"04", "40", "44", "14", "42"}) {
      ThreeRings x = Check.made("U2G0005" + kinds.charAt(0) + "G1105" + kinds.charAt(1));
      // all stand: the brake only shifts the second from which all comes again
      x.brake(2, 0, 4);
      for (int t = 0; t < 300; t++) Check.due(kinds + " at " + t, x.open(0, 1, t), t % 3 == 0 ? 1 : 0);
    }
    Check.due("not of KIND 4", Check.made("U2G00050G11050").open(0, 1, 1), 1);
  }

  // ---- Terms: NEXT, LONG, SHARE, MEET

  @Sentence(in = "Terms", says = "NEXT: the soonest second, t or later, at which a JOIN is OPEN;")
  @Broken(in = "public int next(", code = "t + wait;", as = "wait;")
  @Broken(in = "public int next(", code = "table.joinOf(gate, other), t)", as = "table.joinOf(gate, other), t + 1)")
  @Broken(in = "int horizonFrom(", code = "Math.max(0, steady - t) + plan.parts", as = "plan.parts")
  @Broken(in = "int horizonFrom(", code = "+ plan.parts", as = "+ plan.parts - 1")
  @Broken(in = "int waitFor(", code = "i = i + 1 < span ? i + 1 : steady;", as = "i = i + 1 < span ? i + 1 : 0;")
  static void nextIsTheSoonest() {
    ThreeRings x = Check.made("U9R01G00000G11010G00004G11500");
    Check.due("at t itself", x.next(0, 1, 1), 1);
    Check.due("a second later", x.next(0, 1, 0), 1);
    Check.due("a turn later", x.next(0, 1, 2), 55);
    Check.due("a turn less a second later", x.next(0, 1, 56), 109);
    for (int t = 0; t < 300; t++) Check.due("from " + t, x.next(0, 1, t), t + Math.floorMod(1 - t, 54));
    x.brake(0, 40, 97);
    Check.due("KIND 4 at a second of three by a brake", x.next(2, 3, 0), 147);
    x.brake(0, 99, 99);
    Check.due("past the last brake", x.next(0, 1, 56), 208);
    x.brake(0, 1, 99);
    Check.due("from within a brake", x.next(0, 1, 77), 77);
    Check.due("the last second that is held", x.next(0, 1, 100), 100);
    Check.due("a turn behind the brake", x.next(0, 1, 101), 154);
  }

  @Sentence(in = "Terms", says = "at which a JOIN is OPEN; NONE: never.")
  @Broken(in = "public int next(", code = "wait == NEVER ? NONE : t + wait", as = "t + wait")
  @Broken(in = "int waitFor(", code = "if (!isPair(join)) {\n                return NEVER;\n            }", as = "if (!isPair(join)) {\n return 0;\n }")
  static void nextIsNever() {
    ThreeRings x = Check.made("U2R02G00000G11010G11000G00020");
    Check.due("only even places apart", x.next(0, 1, 0), NONE);
    Check.due("asked again", x.next(0, 1, 0), NONE);
    Check.due("one ring", x.next(1, 2, 0), NONE);
    Check.due("itself", x.next(0, 0, 0), NONE);
    x.brake(0, 3, 0);
    Check.due("a brake of no seconds", x.next(0, 1, 5), NONE);
    x.brake(0, 5, 1);
    x.turn(0, 0);
    x.brake(1, 9, 9);
    Check.due("all stand", x.next(0, 1, 0), NONE);
    ThreeRings once = Check.made("U2R01R11G00000G11000");
    once.brake(0, 5, 1);
    Check.due("for the last time", once.next(0, 1, 5), 5);
    Check.due("never again", once.next(0, 1, 6), NONE);
    Check.due("KIND 2 outwards", Check.made("U2G00002G11000").next(1, 0, 0), NONE);
    Check.due("KIND 4 at no second of three", Check.made("U9R01G00004G11500").next(0, 1, 0), NONE);
  }

  @Sentence(in = "Terms", says = "LONG: for how many seconds on end it is OPEN from t on")
  @Broken(in = "public int stays(", code = "return k;", as = "return k + 1;")
  @Broken(in = "public int stays(", code = "return k;", as = "return t + k;")
  @Broken(in = "public int stays(", code = "table.isOpen(join, t + k)", as = "table.isOpen(join, k)")
  @Broken(in = "public int stays(", code = "table.lay(now);", as = "table.lay(trial);")
  static void openOnEnd() {
    ThreeRings x = Check.made("U2R01G00001G11010G00000G11003");
    int[] longs = {3, 2, 1, 0, 0, 0, 0, 0, 0, 0, 0, 0};
    for (int t = 0; t < 300; t++) Check.due("from " + t, x.stays(0, 1, t), longs[t % 12]);
    Check.due("KIND 3 goes along for a second", x.stays(2, 3, 0), 2);
    x.brake(0, 2, 90);
    Check.due("held by a brake", x.stays(0, 1, 0), 93);
    Check.due("just let go", x.stays(0, 1, 92), 1);
    Check.due("short of a turn later", x.stays(0, 1, 101), 0);
    Check.due("a turn later", x.stays(0, 1, 102), 3);
    x.turn(0, 4);
    x.brake(0, 99, 99);
    Check.due("until the last brake ends", x.stays(0, 3, 99), 100);
    Check.due("KIND 4 for one second on end", Check.made("U2G00004G11000").stays(0, 1, 3), 1);
  }

  @Sentence(in = "Terms", says = "(0: it is not; 999: for ever).")
  @Broken(code = "FOR_EVER = 999", as = "FOR_EVER = 1000")
  @Broken(in = "int horizonFrom(", code = "Math.max(0, steady - t) + plan.parts", as = "plan.parts")
  @Broken(in = "boolean isOpen(", code = "isPair(join) && openAt(join, fold(t))", as = "!isPair(join) || openAt(join, fold(t))")
  static void notOpenOrForEver() {
    ThreeRings x = Check.made("U2R03R13G00000G11000G11010G00002");
    for (int t : new int[] {0, 1, 150, 299}) {
      Check.due("not", x.stays(0, 2, t), 0);
      Check.due("for ever", x.stays(0, 1, t), 999);
      Check.due("itself", x.stays(0, 0, t), 0);
      Check.due("one ring", x.stays(0, 3, t), 0);
      Check.due("KIND 2 inwards for ever", x.stays(3, 1, t), 999);
      Check.due("KIND 2 outwards not", x.stays(1, 3, t), 0);
    }
    x.brake(0, 99, 4);
    Check.due("for ever but for a brake", x.stays(0, 1, 0), 100);
    Check.due("not while it is held", x.stays(0, 1, 100), 0);
    // four seconds of three parts are a turn
    Check.due("for ever behind the brake", x.stays(0, 1, 103), 999);
    x.brake(0, 99, 99);
    x.turn(1, 0);
    x.turn(0, 0);
    Check.due("a brake of what stands", x.stays(0, 1, 0), 999);
  }

  @Sentence(in = "Terms", says = "SHARE: of how many seconds of U, all BRAKES set aside, it is OPEN, a FRACTION.")
  @Broken(in = "public int share(", code = "trial.clearBrakes();", as = "")
  @Broken(in = "public int share(", code = "trial.clearBrakes();", as = "now.clearBrakes();\n trial.clearBrakes();")
  @Broken(in = "void clearBrakes(", code = "Arrays.fill(brakeLong, 0);", as = "brakeLong[0] = 0;")
  @Broken(in = "public int share(", code = "t < plan.parts", as = "t < plan.parts - 1")
  @Broken(in = "public int share(", code = "t < plan.parts", as = "t < SECONDS")
  @Broken(in = "public int share(", code = "/ divisor", as = "")
  static void shareOfATurn() {
    ThreeRings x = Check.made("U2R01G00001G11010G00062G11060G00004G11003G00110");
    fraction(x, 0, 1, 1, 4);
    fraction(x, 1, 0, 1, 4);
    fraction(x, 2, 3, 1, 12);
    fraction(x, 3, 2, 0, 1);
    fraction(x, 0, 2, 0, 1);
    fraction(x, 0, 0, 0, 1);
    fraction(x, 4, 3, 1, 12);
    fraction(x, 6, 1, 1, 12);
    for (int r = 0; r < 3; r++) x.brake(r, 0, 99);
    fraction(x, 0, 1, 1, 4);
    fraction(x, 2, 3, 1, 12);
    for (int r = 0; r < 3; r++) Check.due("brakes are still there", x.brake(r, 0, 0), 99);
    ThreeRings within = Check.made("U2R11R22G10001G21000");
    for (int r = 0; r < 3; r++) within.brake(r, 0, 30 + r);
    fraction(within, 0, 1, 1, 4);
    // in the last of U seconds
    fraction(Check.made("U9R01G00000G11530"), 0, 1, 1, 54);
    x.turn(0, 0);
    fraction(x, 0, 1, 1, 1);
    fraction(x, 4, 5, 1, 6);
    // four of 54 seconds, in lowest terms
    fraction(Check.made("U9r01G00003G11531"), 0, 1, 2, 27);
  }

  private static void fraction(ThreeRings x, int g, int h, int upper, int lower) {
    Check.due("share " + g + " " + h + " upper", x.share(g, h, true), upper);
    Check.due("share " + g + " " + h + " lower", x.share(g, h, false), lower);
  }

  @Sentence(in = "Terms", says = "MEET: the soonest second, t or later, at which all told GATES (two or more) are at one place (KINDS 1, 2, 4 set aside);")
  @Broken(in = "public int meet(", code = "return t + k;", as = "return k;")
  @Broken(in = "public int meet(", code = "table.atOnePlace(gates, t + k)", as = "table.atOnePlace(gates, k)")
  @Broken(in = "boolean atOnePlace(", code = "here != place", as = "Math.abs(here - place) > 1")
  @Broken(in = "boolean atOnePlace(", code = "return false;", as = "return g < plan.gates - 1;")
  @Broken(in = "int placeAt(", code = "int shift = plan.kind[gate] == 3 ? i & 1 : 0;", as = "int shift = 0;")
  static void gatesMeet() {
    // KINDS 1, 2, 4 set aside; KIND 3 not
    ThreeRings x = Check.made("U9R01R12G00001G00104G10202G21303G21300");
    Check.due("two of unlike rings", x.meet(0b00101, 0), 34);
    Check.due("at t itself", x.meet(0b00101, 34), 34);
    Check.due("a turn later", x.meet(0b00101, 35), 88);
    Check.due("KIND 3 in an even second", x.meet(0b01001, 0), 30);
    Check.due("ring 0 and a standing one", x.meet(0b10001, 0), 30);
    Check.due("KIND 4 at any second", x.meet(0b01010, 20), 20);
    Check.due("KIND 3 in an odd second", x.meet(0b01010, 21), 21);
    Check.due("KIND 3 a turn later", x.meet(0b01010, 22), 74);
    Check.due("three", x.meet(0b11001, 0), 30);
    x.turn(0, 2);
    Check.due("KIND 3 only in even seconds", x.meet(0b01001, 16), 42);
    x.turn(0, 1);
    x.brake(0, 25, 99);
    Check.due("a brake ahead of it", x.meet(0b10001, 0), 129);
    Check.due("one ring, one place", Check.made("U2R05G00070G00074").meet(3, 11), 11);
    Check.due("one ring, KIND 3, odd", Check.made("U2R05G00070G00063").meet(3, 10), 11);
    Check.due("rings that are not beside one another", Check.made("U2R01G00000G21010").meet(3, 0), 1);
    Check.due("all eight", Check.made("U2R01" + "G00000".repeat(4) + "G21010G11010G10010G21010").meet(255, 0), 1);
    Check.due("all but the last", Check.made("U2R01" + "G00000".repeat(4) + "G21010G11010G10010G21020").meet(255, 0), NONE);
  }

  @Sentence(in = "Terms", says = "are at one place (KINDS 1, 2, 4 set aside); NONE: never.")
  @Broken(in = "public int meet(", code = "return NONE;", as = "return SECONDS;")
  @Broken(in = "int placeAt(", code = "plan.kind[gate] == 3 ? i & 1 : 0", as = "plan.kind[gate] == 1 ? i & 1 : 0")
  @Broken(in = "public int meet(", code = "k < horizon", as = "t + k < SECONDS")
  static void gatesNeverMeet() {
    ThreeRings x = Check.made("U2R02R12G00001G11010G11033G00000G21050");
    Check.due("one ring, one place", x.meet(0b01001, 0), 0);
    Check.due("one ring, unlike places", x.meet(0b00110, 0), NONE);
    Check.due("KIND 1, 1 apart", x.meet(0b00011, 0), NONE);
    Check.due("odd places apart", x.meet(0b10001, 0), NONE);
    Check.due("some of them", x.meet(0b01011, 0), NONE);
    x.turn(0, 1);
    x.turn(1, 1);
    x.brake(0, 5, 11);
    // 11 seconds behind is 1 ahead: for ever from second 16 on
    Check.due("by a brake", x.meet(0b00011, 0), 16);
    x.brake(0, 5, 10);
    Check.due("a second too few", x.meet(0b00011, 16), NONE);
    Check.due("later than 299 is not never", Check.made("U9R01G00000G21300").meet(3, 299), 300);
  }

  // ---- Promises 12 to 17

  @Sentence(in = "Promise 12: where", says = "Where a GATE is.")
  @Broken(in = "public int where(", code = "table.fold(t)", as = "0")
  @Broken(in = "public int where(", code = "table.lay(now);", as = "")
  @Broken(in = "public int where(", code = "table.placeAt(gate,", as = "table.placeAt(0,")
  static void where() {
    ThreeRings x = Check.made("U2R05r17G00110G10003G10114");
    Check.due("at first", x.where(0, 0), 11);
    Check.due("to the right", x.where(0, 1), 4);
    Check.due("to the left, and KIND 3", x.where(1, 1), 6);
    Check.due("KIND 3 in even seconds", x.where(1, 2), 10);
    Check.due("KIND 4", x.where(2, 1), 4);
    Check.due("the last second", x.where(0, 299), (11 + 5 * 299) % 12);
    x.brake(0, 10, 5);
    Check.due("behind a brake", x.where(0, 16), (11 + 55) % 12);
    x.turn(0, -5);
    Check.due("turned otherwise", x.where(0, 16), Math.floorMod(11 - 55, 12));
  }

  @Sentence(in = "Promise 12: where", says = "UNKNOWN: gate, second.")
  @Broken(in = "public int where(", code = "!plan.hasGate(gate) || !isSecond(t)", as = "!plan.hasGate(gate)")
  @Broken(in = "public int where(", code = "!plan.hasGate(gate) || !isSecond(t)", as = "!isSecond(t)")
  @Broken(in = "public int where(", code = "return UNKNOWN;", as = "return BAD;")
  static void whereIsRefused() {
    ThreeRings x = Check.made(FOUR_RIMS);
    for (int g : Check.noGates(4)) Check.due("gate " + g, x.where(g, 0), UNKNOWN);
    for (int t : Check.NO_SECONDS) Check.due("second " + t, x.where(0, t), UNKNOWN);
    Check.due("the last of both", x.where(3, 299), 5);
  }

  @Sentence(in = "Promise 13: open", says = "Whether the JOIN from a GATE to another one is OPEN: 1, 0.")
  @Broken(in = "public int open(", code = "? 1 : 0", as = "? 0 : 1")
  @Broken(in = "public int open(", code = "table.joinOf(gate, other)", as = "table.joinOf(other, gate)")
  @Broken(in = "public int open(", code = "table.lay(now);", as = "table.lay(trial);")
  static void open() {
    ThreeRings x = Check.made("U2R01G00002G11050G00000");
    for (int t = 0; t < 300; t++) {
      Check.due("inwards at " + t, x.open(0, 1, t), t % 12 == 5 ? 1 : 0);
      Check.due("outwards at " + t, x.open(1, 0, t), 0);
      Check.due("outwards to another at " + t, x.open(1, 2, t), t % 12 == 5 ? 1 : 0);
    }
    Check.due("to itself", x.open(1, 1, 5), 0);
    x.brake(0, 5, 50);
    Check.due("held", x.open(0, 1, 55), 1);
    Check.due("let go", x.open(0, 1, 56), 0);
  }

  @Sentence(in = "Promise 13: open", says = "UNKNOWN: gates, second.")
  @Broken(in = "public int open(", code = "!areGates(gate, other) || !isSecond(t)", as = "!areGates(gate, other)")
  @Broken(in = "public int open(", code = "!areGates(gate, other) || !isSecond(t)", as = "!areGates(gate, 0) || !isSecond(t)")
  @Broken(in = "public int open(", code = "!areGates(gate, other) || !isSecond(t)", as = "!areGates(0, other) || !isSecond(t)")
  static void openIsRefused() {
    ThreeRings x = Check.made(FOUR_RIMS);
    for (int g : Check.noGates(4)) {
      Check.due("gate " + g, x.open(g, 1, 0), UNKNOWN);
      Check.due("other " + g, x.open(0, g, 0), UNKNOWN);
    }
    for (int t : Check.NO_SECONDS) Check.due("second " + t, x.open(0, 1, t), UNKNOWN);
    Check.due("the last second", x.open(0, 1, 299), 1);
  }

  @Sentence(in = "Promise 14: next", says = "NEXT; NONE.")
  @Broken(in = "public int next(", code = "table.joinOf(gate, other)", as = "table.joinOf(other, gate)")
  @Broken(in = "public int next(", code = "table.lay(now);", as = "")
  @Broken(in = "public int next(", code = "wait == NEVER ? NONE", as = "wait == NEVER ? UNKNOWN")
  static void next() {
    ThreeRings x = Check.made("U2R01G00002G11050");
    Check.due("inwards", x.next(0, 1, 6), 17);
    Check.due("outwards never", x.next(1, 0, 6), NONE);
    x.turn(0, -1);
    Check.due("turned otherwise", x.next(0, 1, 6), 7);
    x.turn(0, 0);
    Check.due("standing", x.next(0, 1, 6), NONE);
  }

  @Sentence(in = "Promise 14: next", says = "UNKNOWN.")
  @Broken(in = "public int next(", code = "!areGates(gate, other) || !isSecond(t)", as = "!areGates(gate, other)")
  @Broken(in = "public int next(", code = "!areGates(gate, other) || !isSecond(t)", as = "!areGates(gate, 0) || !isSecond(t)")
  @Broken(in = "public int next(", code = "!areGates(gate, other) || !isSecond(t)", as = "!areGates(0, other) || !isSecond(t)")
  static void nextIsRefused() {
    ThreeRings x = Check.made(FOUR_RIMS);
    for (int g : Check.noGates(4)) {
      Check.due("gate " + g, x.next(g, 1, 0), UNKNOWN);
      Check.due("other " + g, x.next(0, g, 0), UNKNOWN);
    }
    for (int t : Check.NO_SECONDS) Check.due("second " + t, x.next(0, 1, t), UNKNOWN);
  }

  @Sentence(in = "Promise 14: next", says = "(It may be later than 299.)")
  @Broken(in = "public int next(", code = "wait == NEVER ?", as = "t + wait >= SECONDS ?")
  @Broken(in = "public int next(", code = ": t + wait", as = ": Math.min(t + wait, SECONDS - 1)")
  static void nextMayBeLaterThan299() {
    ThreeRings x = Check.made("U9R01G00000G11010");
    Check.due("later", x.next(0, 1, 299), 325);
    Check.due("outwards as well", x.next(1, 0, 299), 325);
    ThreeRings y = Check.made(TURNING);
    Check.due("the last within", y.next(0, 1, 293), 293);
    Check.due("the first without", y.next(0, 1, 294), 305);
    ThreeRings z = Check.made("U9R01G00000G11290");
    Check.due("299 itself", z.next(0, 1, 299), 299);
    ThreeRings far = Check.made("U9R01G00000G11280");
    Check.due("as late as can be", far.next(0, 1, 299), 352);
  }

  @Sentence(in = "Promise 15: stays", says = "LONG.")
  @Broken(in = "public int stays(", code = "table.joinOf(gate, other)", as = "table.joinOf(other, gate)")
  @Broken(in = "public int stays(", code = "table.lay(now);", as = "")
  @Broken(in = "public int stays(", code = "return FOR_EVER;", as = "return NONE;")
  static void stays() {
    ThreeRings x = Check.made("U2R01G00002G11011");
    Check.due("inwards", x.stays(0, 1, 0), 3);
    Check.due("outwards", x.stays(1, 0, 0), 0);
    x.turn(0, 0);
    Check.due("for ever", x.stays(0, 1, 299), 999);
    x.turn(0, -1);
    Check.due("the other way", x.stays(0, 1, 0), 1);
  }

  @Sentence(in = "Promise 15: stays", says = "UNKNOWN.")
  @Broken(in = "public int stays(", code = "!areGates(gate, other) || !isSecond(t)", as = "!areGates(gate, other)")
  @Broken(in = "public int stays(", code = "!areGates(gate, other) || !isSecond(t)", as = "!areGates(gate, 0) || !isSecond(t)")
  @Broken(in = "public int stays(", code = "!areGates(gate, other) || !isSecond(t)", as = "!areGates(0, other) || !isSecond(t)")
  static void staysIsRefused() {
    ThreeRings x = Check.made(FOUR_RIMS);
    for (int g : Check.noGates(4)) {
      Check.due("gate " + g, x.stays(g, 1, 0), UNKNOWN);
      Check.due("other " + g, x.stays(0, g, 0), UNKNOWN);
    }
    for (int t : Check.NO_SECONDS) Check.due("second " + t, x.stays(0, 1, t), UNKNOWN);
  }

  @Sentence(in = "Promise 16: share", says = "SHARE.")
  @Broken(in = "public int share(", code = "upper ? openSeconds : plan.parts", as = "upper ? plan.parts : openSeconds")
  @Broken(in = "public int share(", code = "table.joinOf(gate, other)", as = "table.joinOf(other, gate)")
  @Broken(in = "public int share(", code = "trial.takeFrom(now);", as = "")
  static void share() {
    ThreeRings x = Check.made("U9R01G00002G11011");
    Check.due("upper", x.share(0, 1, true), 1);
    Check.due("lower", x.share(0, 1, false), 18);
    Check.due("never, upper", x.share(1, 0, true), 0);
    Check.due("never, lower", x.share(1, 0, false), 1);
    x.turn(0, 0);
    Check.due("always, upper", x.share(0, 1, true), 1);
    Check.due("always, lower", x.share(0, 1, false), 1);
  }

  @Sentence(in = "Promise 16: share", says = "UNKNOWN: gates.")
  @Broken(in = "public int share(", code = "!areGates(gate, other)", as = "!areGates(gate, 0)")
  @Broken(in = "public int share(", code = "!areGates(gate, other)", as = "!areGates(0, other)")
  static void shareIsRefused() {
    ThreeRings x = Check.made(FOUR_RIMS);
    for (int g : Check.noGates(4)) {
      for (boolean upper : new boolean[] {true, false}) {
        Check.due("gate " + g, x.share(g, 1, upper), UNKNOWN);
        Check.due("other " + g, x.share(0, g, upper), UNKNOWN);
      }
    }
  }

  @Sentence(in = "Promise 17: meet", says = "MEET; NONE.")
  @Broken(in = "public int meet(", code = "table.lay(now);", as = "")
  @Broken(in = "public int meet(", code = "return NONE;", as = "return UNKNOWN;")
  @Broken(in = "public int meet(", code = "return t + k;", as = "return t + k < SECONDS ? t + k : NONE;")
  static void meet() {
    ThreeRings x = Check.made("U9R01G00000G21300G10300");
    Check.due("soonest", x.meet(0b011, 0), 30);
    Check.due("later than 299", x.meet(0b011, 299), 300);
    Check.due("all", x.meet(0b111, 31), 84);
    x.turn(1, 1);
    Check.due("two that never do", x.meet(0b101, 31), NONE);
    x.turn(0, 0);
    Check.due("never", x.meet(0b011, 0), NONE);
  }

  @Sentence(in = "Promise 17: meet", says = "UNKNOWN: second; BAD: gates (bits of GATES, two or more).")
  @Broken(in = "public int meet(", code = "!isSecond(t)", as = "t < 0")
  @Broken(in = "public int meet(", code = "!isSecond(t)", as = "t >= SECONDS")
  @Broken(in = "public int meet(", code = "!plan.hasGates(gates) ||", as = "")
  @Broken(in = "public int meet(", code = "|| Integer.bitCount(gates) < 2", as = "")
  @Broken(in = "public int meet(", code = "|| Integer.bitCount(gates) < 2", as = "|| gates == 0")
  @Broken(in = "public int meet(", code = "|| Integer.bitCount(gates) < 2", as = "|| gates < 3")
  @Broken(in = "boolean hasGates(", code = "bits >= 0 && bits < 1 << gates", as = "bits < 1 << gates")
  @Broken(in = "boolean hasGates(", code = "bits >= 0 && bits < 1 << gates", as = "bits >= 0 && bits <= 1 << gates + 1")
  @Broken(in = "public int meet(", code = "return UNKNOWN;", as = "return gates < 3 ? BAD : UNKNOWN;")
  static void meetIsRefused() {
    ThreeRings x = Check.made(FOUR_RIMS);
    for (int t : Check.NO_SECONDS) {
      Check.due("second " + t, x.meet(3, t), UNKNOWN);
      Check.due("second " + t + " is told first", x.meet(0, t), UNKNOWN);
      Check.due("second " + t + " is told first", x.meet(-1, t), UNKNOWN);
    }
    Check.due("none", x.meet(0, 0), BAD);
    for (int g = 0; g < 32; g++) Check.due("one, bit " + g, x.meet(1 << g, 0), BAD);
    for (int bits : Check.noBits(4)) Check.due("bits " + bits, x.meet(bits, 0), BAD);
    for (int bits = 0; bits < 16; bits++) {
      Check.due("bits " + bits, x.meet(bits, 299), Integer.bitCount(bits) < 2 ? BAD : 299);
    }
    ThreeRings full = Check.made("U2" + "G00000".repeat(8));
    Check.due("all eight", full.meet(255, 0), 0);
    Check.due("a ninth", full.meet(256 | 255, 0), BAD);
    Check.due("no gates", new ThreeRings().meet(3, 0), BAD);
  }
}
