/** Promises 22 to 25 and the Terms that they rest on: the best brake, what it does to others, the worst wait, pumps. */
public final class BrakesTest {
  private static final int UNKNOWN = Check.UNKNOWN, BAD = Check.BAD, NONE = Check.NONE;
  private static final int MIN = Integer.MIN_VALUE, MAX = Integer.MAX_VALUE;
  /** Ring 0 has turned by 5 when they are opposite. */
  private static final String TURNING = "U2R01G00000G11050";
  /** Both turn at one pace: never opposite, but by a brake. */
  private static final String TOGETHER = "U2R01R11G00000G11050";

  public static void main(String[] args) {
    Sentences.run(BrakesTest.class);
  }

  // ---- Terms: BEST BRAKE, HARM

  @Sentence(in = "Terms", says = "BEST BRAKE of a RING for d seconds, for one from a GATE at t to another one: of seconds t .. t and U less 1 from which it is BRAKED")
  @Broken(in = "private int bestBrakeStart(", code = "s < t + plan.parts", as = "s <= t + plan.parts")
  @Broken(in = "private int bestBrakeStart(", code = "s < t + plan.parts", as = "s < t + plan.parts - 1")
  @Broken(in = "private int bestBrakeStart(", code = "int s = t;", as = "int s = t + 1;")
  @Broken(in = "private int bestBrakeStart(", code = "int s = t;", as = "int s = 0;")
  @Broken(in = "private int bestBrakeStart(", code = "layTrial(ring, s, d);", as = "layTrial(ring, s, 1);")
  @Broken(in = "private int bestBrakeStart(", code = "s < t + plan.parts", as = "s < t + plan.parts && s <= MOST_BRAKE")
  @Broken(in = "private int bestBrakeStart(", code = "ways.spread(gate, t);", as = "ways.spread(gate, s);")
  static void secondsOfATurnAreTried() {
    ThreeRings together = Check.made(TOGETHER);
    Check.due("the first second", together.bestBrake(1, 5, 0, 2, 1), 2);
    Check.due("the first second of all", together.bestBrake(1, 5, 0, 0, 1), 0);
    Check.due("the last second of all", together.bestBrake(1, 5, 0, 299, 1), 299);
    // one is there ahead of second 11, and all earlier ones hold one up
    ThreeRings last = Check.made("U2R01G00000G11110");
    Check.due("the last that is tried", last.bestBrake(0, 9, 0, 0, 1), 11);
    Check.due("the last that is tried, later", last.bestBrake(0, 9, 0, 288, 1), 299);
    // a brake from second 12 on would do no harm, but it is a turn away
    ThreeRings turnAway = Check.made("U2R21G11000G10060G21060");
    Check.due("without", turnAway.soonest(0, 0, 2), 13);
    Check.due("no second behind a turn", turnAway.bestBrake(2, 5, 0, 0, 2), 0);
    // one who leaves at 0 goes through at 3
    Check.due("one leaves at t", Check.made("U2R01G00000G00030G11060").bestBrake(0, 1, 0, 0, 2), 3);
    Check.due("later than 299", Check.made(TURNING).bestBrake(0, 3, 0, 299, 1), 305);
    Check.due("so late", Check.made("U9R01G00000G11280").bestBrake(0, 99, 0, 299, 1), 352);
  }

  @Sentence(in = "Terms", says = "(instead of its BRAKE; others as they are)")
  @Broken(in = "private void layTrial(", code = "trial.takeFrom(now);", as = "trial.takeFrom(now);\n trial.clearBrakes();")
  @Broken(in = "private void layTrial(", code = "trial.setBrake(ring, s, d);", as = "if (now.brakeLong[ring] == 0) trial.setBrake(ring, s, d);")
  @Broken(in = "private void layTrial(", code = "trial.setBrake(ring, s, d);", as = "now.setBrake(ring, s, d);\n trial.setBrake(ring, s, d);")
  static void insteadOfItsBrake() {
    ThreeRings x = Check.made(TURNING);
    x.brake(0, 5, 50);
    Check.due("by its brake", x.soonest(0, 8, 1), 9);
    Check.due("instead of its brake", x.bestBrake(0, 1, 0, 8, 1), 17);
    Check.due("another's brake as it is", x.bestBrake(1, 1, 0, 8, 1), 8);
    Check.due("its brake is as it was", x.soonest(0, 8, 1), 9);
    Check.due("its brake is as it was", x.brake(0, 0, 0), 50);
    ThreeRings together = Check.made(TOGETHER);
    Check.due("too short alone", together.bestBrake(1, 3, 0, 0, 1), NONE);
    together.brake(0, 0, 10);
    // ring 0 is 10 behind: 15 ahead is 3 ahead
    Check.due("with another's brake", together.bestBrake(1, 3, 0, 12, 1), 12);
  }

  @Sentence(in = "Terms", says = "the one by which SOONEST is least; of like ones the first;")
  @Broken(in = "private int bestBrakeStart(", code = "if (end < best)", as = "if (end <= best && end < NEVER)")
  @Broken(in = "private int bestBrakeStart(", code = "if (end < best)", as = "if (best == NEVER && end < NEVER)")
  @Broken(in = "private int bestBrakeStart(", code = "if (end <= s)", as = "if (end < NEVER)")
  @Broken(in = "private int bestBrakeStart(", code = "return start;", as = "return start == NONE ? NONE : best;")
  static void leastAndFirst() {
    ThreeRings x = Check.made(TURNING);
    Check.due("the first that does not hold one up", x.bestBrake(0, 3, 0, 0, 1), 5);
    Check.due("one that does nothing", x.bestBrake(1, 3, 0, 0, 1), 0);
    Check.due("on a ring that has no gate", x.bestBrake(2, 99, 0, 7, 1), 7);
    Check.due("itself", x.bestBrake(0, 3, 0, 7, 0), 7);
    String[] cities = {"U2R01r12R23G00000G11050G10030G21080", "U3R04R11r25G00001G11050G10033G21080G11120",
        "U9R01R11R22G00000G11050G10060G21050"};
    for (String text : cities) {
      for (int n = 0; n < 36; n++) tryEachSecond(Check.made(text), n % 3, 1 + 5 * (n / 3 % 3), 13 * (n / 9));
    }
    ThreeRings together = Check.made(TOGETHER);
    Check.due("each second later is later", together.bestBrake(0, 7, 0, 2, 1), 2);
  }

  /** The best brake is the first of the least when each one is told, and soonest is asked. */
  private static void tryEachSecond(ThreeRings x, int ring, int d, int t) {
    int told = x.bestBrake(ring, d, 0, t, 3);
    int least = MAX;
    int best = NONE;
    for (int s = t; s < t + x.about(0); s++) {
      x.brake(ring, s, d);
      int end = x.soonest(0, t, 3);
      if (end != NONE && end < least) {
        least = end;
        best = s;
      }
    }
    Check.due("the best of ring " + ring + " for " + d + " from " + t, told, best);
  }

  @Sentence(in = "Terms", says = "of like ones the first; NONE: it can not be.")
  @Broken(in = "private int bestBrakeStart(", code = "int start = NONE;", as = "int start = t;")
  @Broken(in = "private int bestBrakeStart(", code = "int best = NEVER;", as = "int best = NEVER + 1;")
  static void noBrakeBringsOneThere() {
    Check.due("all stand", Check.made("U2G00000G11050").bestBrake(0, 9, 0, 0, 1), NONE);
    ThreeRings together = Check.made(TOGETHER);
    Check.due("never without", together.soonest(0, 2, 1), NONE);
    Check.due("just as long as it takes", together.bestBrake(1, 5, 0, 2, 1), 2);
    Check.due("a second too short", together.bestBrake(1, 4, 0, 2, 1), NONE);
    Check.due("another ring's", together.bestBrake(2, 99, 0, 2, 1), NONE);
    Check.due("KIND 2 outwards", Check.made("U2R01G00002G11050").bestBrake(0, 9, 1, 0, 0), NONE);
  }

  @Sentence(in = "Terms", says = "HARM: by how many others it is later: of all pairs of GATES (unlike ones) at t those whose SOONEST is later by the BEST BRAKE,")
  @Broken(in = "int countLater(", code = "arrive[to] > before[MOST_GATES * from + to]", as = "arrive[to] >= before[MOST_GATES * from + to]")
  @Broken(in = "int countLater(", code = "arrive[to] > before[MOST_GATES * from + to]", as = "arrive[to] > before[MOST_GATES * from + to] && from < to")
  @Broken(in = "int countLater(", code = "arrive[to] > before[MOST_GATES * from + to]", as = "arrive[to] != before[MOST_GATES * from + to]")
  @Broken(in = "public int harm(", code = "ways.rememberAll(t);", as = "ways.rememberAll(0);")
  @Broken(in = "public int harm(", code = "ways.countLater(t)", as = "ways.countLater(0)")
  @Broken(in = "public int harm(", code = "layTrial(ring, start, d);", as = "layTrial(ring, t, d);")
  @Broken(in = "public int harm(", code = "table.lay(now);", as = "")
  static void pairsThatAreLater() {
    ThreeRings x = Check.made(TURNING);
    Check.due("none", x.harm(0, 3, 0, 0, 1), 0);
    x.brake(0, 5, 50);
    // from 0 to 1 and from 1 to 0: both 9 by the brake that is, 18 by the best one of one second
    Check.due("all pairs", x.harm(0, 1, 0, 8, 1), 2);
    Check.due("the brake is as it was", x.brake(0, 5, 50), 50);
    // gates 2 and 3 are opposite at second 1, but a turn later by the brake that brings 0 opposite 1
    ThreeRings missed = Check.made("U9R01R11R22G00000G11050G10060G21050");
    Check.due("2 to 3, 3 to 2, 1 to 3, 3 to 1", missed.harm(1, 5, 0, 0, 1), 4);
    Check.due("each pair asked", byHand(missed, 1, 5, 0), 4);
    ThreeRings two = Check.made("U9R01R11R22G00000G11050G10060G21040");
    Check.due("each pair asked", two.harm(1, 5, 0, 0, 1), byHand(two, 1, 5, 0));
    // at second 40 they are still to come
    ThreeRings later = Check.made("U9R01R11R22G00000G11050G10410G21000");
    Check.due("at t", later.harm(1, 5, 0, 40, 1), byHand(later, 1, 5, 40));
    Check.due("the best brake, not the first", Check.made("U2R01G00000G11050G00080G11080").harm(0, 3, 0, 0, 1), 0);
  }

  /** The same count by laying the brake from t on and asking for each pair. */
  private static int byHand(ThreeRings x, int ring, int d, int t) {
    Check.due("the best brake is from t on", x.bestBrake(ring, d, 0, t, 1), t);
    int gates = x.about(1);
    int[] was = new int[gates * gates];
    for (int p = 0; p < was.length; p++) was[p] = x.soonest(p / gates, t, p % gates);
    x.brake(ring, t, d);
    int later = 0;
    for (int p = 0; p < was.length; p++) {
      int is = x.soonest(p / gates, t, p % gates);
      if (was[p] != NONE && (is == NONE || is > was[p])) later++;
    }
    x.brake(ring, 0, 0);
    return later;
  }

  @Sentence(in = "Terms", says = "later by the BEST BRAKE, or never any more.")
  @Broken(in = "int countLater(", code = "arrive[to] > before[MOST_GATES * from + to]", as = "arrive[to] > before[MOST_GATES * from + to] && arrive[to] < NEVER")
  static void pairsThatAreNeverAnyMore() {
    // ring 2's own brake brings gates 2 and 3 opposite for ever from second 2 on; if ring 1 is held from 0 on, never
    ThreeRings x = Check.made("U2R01R11R21G00000G11050G10030G21040");
    x.brake(2, 1, 1);
    Check.due("for ever without", x.stays(2, 3, 2), 999);
    Check.due("the best", x.bestBrake(1, 5, 0, 0, 1), 0);
    Check.due("2 to 3, 3 to 2, 1 to 3, 3 to 1", x.harm(1, 5, 0, 0, 1), 4);
    x.brake(1, 0, 5);
    Check.due("never any more", x.soonest(2, 0, 3), NONE);
  }

  // ---- Terms: WORST, PUMPS

  @Sentence(in = "Terms", says = "WORST from a GATE to another one: the most seconds that it takes from any of U seconds, 0 on (BRAKES as they are);")
  @Broken(in = "int longest(", code = "most = Math.max(most, arrive[to] - t);", as = "most = Math.max(most, arrive[to]);")
  @Broken(in = "int longest(", code = "most = Math.max(most, arrive[to] - t);", as = "most = arrive[to] - t;")
  @Broken(in = "int longest(", code = "t < plan.parts", as = "t < plan.parts - 1")
  @Broken(in = "int longest(", code = "t < plan.parts", as = "t <= plan.parts")
  @Broken(in = "int longest(", code = "int t = 0;", as = "int t = 1;")
  @Broken(in = "public int worst(", code = "table.lay(now);", as = "trial.takeFrom(now);\n trial.clearBrakes();\n table.lay(trial);")
  static void theMostSecondsOfATurn() {
    ThreeRings x = Check.made(TURNING);
    Check.due("just missed", x.worst(0, 1), 12);
    Check.due("itself", x.worst(1, 1), 0);
    Check.due("round a ring", Check.made("U2G00000G00060").worst(0, 1), 6);
    x.brake(0, 6, 20);
    Check.due("just missed, and braked", x.worst(0, 1), 32);
    x.brake(0, 40, 20);
    Check.due("a brake behind the first turn", x.worst(0, 1), 12);
    ThreeRings first = Check.made("U2R01G00000G11110");
    first.brake(0, 0, 30);
    Check.due("from second 0 alone", first.worst(0, 1), 42);
    ThreeRings last = Check.made("U2R01G00000G11100");
    Check.due("from the last second of a turn", last.worst(0, 1), 12);
    ThreeRings behind = Check.made("U2R01G00000G11110");
    behind.brake(0, 12, 50);
    Check.due("not from second U", behind.worst(0, 1), 12);
  }

  @Sentence(in = "Terms", says = "NONE: from one it is never.")
  @Broken(in = "int longest(", code = "if (arrive[to] >= NEVER) {\n                    return NEVER;\n                }", as = "if (arrive[to] >= NEVER) {\n continue;\n }")
  @Broken(in = "int longest(", code = "return NEVER;", as = "return t == 0 ? NEVER : most;")
  static void neverFromOneSecond() {
    Check.due("never at all", Check.made("U2R01G00002G11050").worst(1, 0), NONE);
    Check.due("all stand", Check.made("U2G00000G11050").worst(0, 1), NONE);
    ThreeRings once = Check.made("U2R01R11G00000G11000");
    once.brake(0, 5, 1);
    Check.due("only up to second 5", once.worst(0, 1), NONE);
    once.brake(0, 11, 1);
    Check.due("just up to the last", once.worst(0, 1), 1);
    once.brake(0, 10, 1);
    Check.due("not from the last", once.worst(0, 1), NONE);
  }

  @Sentence(in = "Terms", says = "PUMPS for s seconds (0 .. 99):")
  @Broken(code = "MOST_PUMP_SECONDS = 99", as = "MOST_PUMP_SECONDS = 98")
  @Broken(code = "MOST_PUMP_SECONDS = 99", as = "MOST_PUMP_SECONDS = 100")
  @Broken(in = "public int pumps(", code = "s < 0", as = "s < 1")
  @Broken(in = "void collectPumpSets(", code = "t + seconds", as = "t + seconds - 1")
  static void secondsOfPumps() {
    ThreeRings x = Check.made(TURNING);
    for (int s = 0; s <= 99; s++) Check.due("in " + s, x.pumps(s), s < 12 ? 3 : 1);
    for (int s : new int[] {-1, 100, MIN, MAX}) Check.due("in " + s, x.pumps(s), BAD);
    Check.due("one gate in no second", Check.made("U2G00000").pumps(0), 1);
    ThreeRings held = Check.made("U9R01G00000G11500");
    held.brake(0, 10, 48);
    Check.due("in 99, just so", held.pumps(99), 1);
    held.brake(0, 10, 49);
    Check.due("in 99, a second too few", held.pumps(99), 3);
  }

  @Sentence(in = "Terms", says = "the fewest GATES (as bits; of as few the least number) so that each GATE is reached from one of them in s seconds or fewer from each of U seconds, 0 on")
  @Broken(in = "int fewestPumps(", code = "Integer.bitCount(set) < fewest", as = "Integer.bitCount(set) <= fewest")
  @Broken(in = "int fewestPumps(", code = "Integer.bitCount(set) < fewest", as = "best == NONE")
  @Broken(in = "int fewestPumps(", code = "set < 1 << plan.gates", as = "set < (1 << plan.gates) - 1")
  @Broken(in = "private int gatesInTime(", code = "<= by", as = "< by")
  @Broken(in = "private boolean servesAll(", code = "i < pumpSetCount", as = "i < pumpSetCount - 1")
  @Broken(in = "void collectPumpSets(", code = "int t = 0;", as = "int t = 1;")
  @Broken(in = "void collectPumpSets(", code = "t < plan.parts", as = "t < plan.parts - 1")
  @Broken(in = "void collectPumpSets(", code = "t < plan.parts", as = "t <= plan.parts")
  @Broken(in = "private void addPumpSet(", code = "if (pumpSets[i] == set)", as = "if (set < 0)")
  static void theFewestPumps() {
    Check.due("only inwards", Check.made("U2R01G11050G00002").pumps(99), 2);
    Check.due("the least of like ones", Check.made("U2G00000G00000G00000").pumps(1), 1);
    Check.due("the fewest, not the least number", Check.made("U2G00000G00040G00020").pumps(2), 4);
    Check.due("of as few the least number", Check.made("U2G00000G11050G10030G21100").pumps(99), 0b1011);
    Check.due("all eight", Check.made("U2" + "G00000".repeat(8)).pumps(0), 255);
    Check.due("one for eight", Check.made("U2" + "G00000".repeat(8)).pumps(1), 1);
    ThreeRings x = Check.made(TURNING);
    x.brake(0, 0, 20);
    Check.due("from second 0, braked", x.pumps(26), 1);
    Check.due("from second 0, a second too few", x.pumps(25), 3);
    ThreeRings last = Check.made("U2R01G00000G11100");
    Check.due("from the last second of a turn", last.pumps(12), 1);
    Check.due("from the last second, a second too few", last.pumps(11), 3);
    ThreeRings behind = Check.made("U2R01G00000G11110");
    behind.brake(0, 12, 50);
    Check.due("a brake behind the first turn", behind.pumps(12), 1);
    // all sets of the first seconds are alike: those of the last second count as well
    ThreeRings most = Check.made("U9R01" + "G00000".repeat(7) + "G11520");
    Check.due("eight gates, the longest turn", most.pumps(54), 1);
    Check.due("eight gates, a second too few", most.pumps(53), 0b10000001);
  }

  @Sentence(in = "Terms", says = "(from another one at another second, if need be);")
  @Broken(in = "void collectPumpSets(", code = "rememberAll(t);\n                for (int to = 0; to < plan.gates; to++) {\n                    addPumpSet(gatesInTime(to, t + seconds));\n                }", as = "for (int to = 0; to < plan.gates; to++) {\n int all = 255;\n for (int n = 0; n < plan.parts; n++) {\n rememberAll(n);\n all &= gatesInTime(to, n + seconds);\n }\n addPumpSet(all);\n }")
  static void anotherPumpAtAnotherSecond() {
    ThreeRings x = Check.made("U2R01G00000G00060G11000");
    for (int g = 0; g < 2; g++) Check.due("none alone at each second", x.worst(g, 2), 12);
    Check.due("now one, now the other", x.pumps(6), 3);
    Check.due("not in fewer", x.pumps(5), 7);
  }

  @Sentence(in = "Terms", says = "NONE: there are no GATES, or it can not be.")
  @Broken(in = "public int pumps(", code = "if (plan.gates == 0) {\n            return NONE;\n        }", as = "if (plan.gates == 0) {\n return 0;\n }")
  @Broken(in = "int fewestPumps(", code = "int set = 1;", as = "int set = 2;")
  static void pumpsWithoutGates() {
    Check.due("a new object", new ThreeRings().pumps(0), NONE);
    Check.due("a city without gates", Check.made("U9R01").pumps(99), NONE);
    // each gate reaches itself, so that with gates it can always be
    for (int n = 1; n <= 8; n++) {
      Check.due(n + " gates", Check.made("U2" + "G00000".repeat(n)).pumps(0), (1 << n) - 1);
    }
  }

  // ---- Promises 22 to 25

  @Sentence(in = "Promise 22: bestBrake", says = "BEST BRAKE; NONE.")
  @Broken(in = "public int bestBrake(", code = "bestBrakeStart(ring, d, gate, t, other)", as = "bestBrakeStart(ring, d, other, t, gate)")
  @Broken(in = "private int bestBrakeStart(", code = "int start = NONE;", as = "int start = UNKNOWN;")
  @Broken(in = "public int bestBrake(", code = "refusal : bestBrakeStart(ring, d, gate, t, other)", as = "refusal : Math.min(99, bestBrakeStart(ring, d, gate, t, other))")
  static void bestBrake() {
    ThreeRings x = Check.made("U2R01G00002G11050");
    Check.due("there", x.bestBrake(0, 3, 0, 0, 1), 5);
    Check.due("of one second", x.bestBrake(0, 1, 0, 0, 1), 5);
    Check.due("of 99 seconds", x.bestBrake(0, 99, 0, 0, 1), 5);
    Check.due("later than a told brake can be", x.bestBrake(0, 3, 0, 150, 1), 161);
    Check.due("not back", x.bestBrake(0, 3, 1, 0, 0), NONE);
    x.turn(0, 0);
    Check.due("standing", x.bestBrake(0, 3, 0, 0, 1), NONE);
  }

  @Sentence(in = "Promise 22: bestBrake", says = "UNKNOWN: ring, gates, second; BAD: d (1 .. 99).")
  @Broken(in = "private int refuseBestBrake(", code = "!isRing(ring) ||", as = "")
  @Broken(in = "private int refuseBestBrake(", code = "!areGates(gate, other)", as = "!areGates(gate, 0)")
  @Broken(in = "private int refuseBestBrake(", code = "!areGates(gate, other)", as = "!areGates(0, other)")
  @Broken(in = "private int refuseBestBrake(", code = "|| !isSecond(t)", as = "")
  @Broken(in = "private int refuseBestBrake(", code = "d < 1", as = "d < 0")
  @Broken(in = "private int refuseBestBrake(", code = "d > MOST_BRAKE", as = "d > 100")
  @Broken(in = "private int refuseBestBrake(", code = "d > MOST_BRAKE", as = "d > 98")
  @Broken(in = "private int refuseBestBrake(", code = "return UNKNOWN;", as = "return d < 1 ? BAD : UNKNOWN;")
  @Broken(in = "public int bestBrake(", code = "refusal != 0 ?", as = "refusal == UNKNOWN ?")
  static void bestBrakeIsRefused() {
    ThreeRings x = Check.made(TURNING);
    for (int d : new int[] {1, 99, 0, 100}) {
      for (int r : Check.NO_RINGS) Check.due("ring " + r, x.bestBrake(r, d, 0, 0, 1), UNKNOWN);
      for (int g : Check.noGates(2)) {
        Check.due("gate " + g, x.bestBrake(0, d, g, 0, 1), UNKNOWN);
        Check.due("other " + g, x.bestBrake(0, d, 0, 0, g), UNKNOWN);
      }
      for (int t : Check.NO_SECONDS) Check.due("second " + t, x.bestBrake(0, d, 0, t, 1), UNKNOWN);
    }
    for (int d : new int[] {0, -1, 100, MIN, MAX}) Check.due("d " + d, x.bestBrake(0, d, 0, 0, 1), BAD);
    for (int d = 1; d <= 99; d++) Check.due("d " + d, x.bestBrake(0, d, 0, 0, 1), 5);
  }

  @Sentence(in = "Promise 23: harm", says = "HARM; NONE: there is no BEST BRAKE.")
  @Broken(in = "public int harm(", code = "if (start == NONE) {\n            return NONE;\n        }", as = "if (start == NONE) {\n return 0;\n }")
  @Broken(in = "public int harm(", code = "return ways.countLater(t);", as = "return ways.countLater(t) / 2;")
  static void harm() {
    Check.due("no best brake", Check.made("U2G00000G11050").harm(0, 9, 0, 0, 1), NONE);
    Check.due("no best brake", Check.made(TOGETHER).harm(1, 4, 0, 0, 1), NONE);
    Check.due("no others", Check.made(TOGETHER).harm(1, 5, 0, 0, 1), 0);
    Check.due("others, but none later", Check.made(TURNING).harm(1, 5, 0, 0, 1), 0);
    ThreeRings x = Check.made("U9R01R11R22G00000G11050G10060G21050");
    Check.due("four are later", x.harm(1, 5, 0, 0, 1), 4);
    Check.due("itself to itself", x.harm(1, 5, 0, 0, 0), x.harm(1, 5, 0, 0, 1));
  }

  @Sentence(in = "Promise 23: harm", says = "UNKNOWN; BAD.")
  @Broken(in = "public int harm(", code = "if (refusal != 0)", as = "if (refusal == UNKNOWN)")
  @Broken(in = "public int harm(", code = "if (refusal != 0)", as = "if (refusal == BAD)")
  @Broken(in = "private int refuseBestBrake(", code = "return UNKNOWN;", as = "return d < 1 ? BAD : UNKNOWN;")
  static void harmIsRefused() {
    ThreeRings x = Check.made(TURNING);
    for (int d : new int[] {1, 99, 0, 100}) {
      for (int r : Check.NO_RINGS) Check.due("ring " + r, x.harm(r, d, 0, 0, 1), UNKNOWN);
      for (int g : Check.noGates(2)) {
        Check.due("gate " + g, x.harm(0, d, g, 0, 1), UNKNOWN);
        Check.due("other " + g, x.harm(0, d, 0, 0, g), UNKNOWN);
      }
      for (int t : Check.NO_SECONDS) Check.due("second " + t, x.harm(0, d, 0, t, 1), UNKNOWN);
    }
    for (int d : new int[] {0, -1, 100, MIN, MAX}) Check.due("d " + d, x.harm(0, d, 0, 0, 1), BAD);
    Check.due("d 1", x.harm(0, 1, 0, 0, 1), 0);
    Check.due("d 99", x.harm(0, 99, 0, 0, 1), 0);
  }

  @Sentence(in = "Promise 24: worst", says = "WORST; NONE.")
  @Broken(in = "public int worst(", code = "ways.longest(gate, other)", as = "ways.longest(other, gate)")
  @Broken(in = "public int worst(", code = "table.lay(now);", as = "")
  @Broken(in = "public int worst(", code = "orNone(ways.longest(gate, other))", as = "ways.longest(gate, other)")
  static void worst() {
    ThreeRings x = Check.made("U2R01G00002G11050");
    Check.due("inwards", x.worst(0, 1), 12);
    Check.due("outwards", x.worst(1, 0), NONE);
    x.turn(0, 3);
    Check.due("never there", x.worst(0, 1), NONE);
    x.turn(0, 5);
    Check.due("turned otherwise", x.worst(0, 1), 12);
  }

  @Sentence(in = "Promise 24: worst", says = "UNKNOWN.")
  @Broken(in = "public int worst(", code = "!areGates(gate, other)", as = "!areGates(gate, 0)")
  @Broken(in = "public int worst(", code = "!areGates(gate, other)", as = "!areGates(0, other)")
  static void worstIsRefused() {
    ThreeRings x = Check.made(TURNING);
    for (int g : Check.noGates(2)) {
      Check.due("gate " + g, x.worst(g, 1), UNKNOWN);
      Check.due("other " + g, x.worst(0, g), UNKNOWN);
    }
  }

  @Sentence(in = "Promise 25: pumps", says = "PUMPS; NONE.")
  @Broken(in = "public int pumps(", code = "table.lay(now);", as = "")
  @Broken(in = "public int pumps(", code = "return ways.fewestPumps();", as = "return Integer.bitCount(ways.fewestPumps());")
  @Broken(in = "public int pumps(", code = "if (plan.gates == 0) {\n            return NONE;\n        }", as = "if (plan.gates == 0) {\n return UNKNOWN;\n }")
  @Broken(in = "void collectPumpSets(", code = "pumpSetCount = 0;", as = "")
  static void pumps() {
    ThreeRings x = Check.made("U2R01G00002G11050G11040");
    Check.due("from without", x.pumps(99), 1);
    Check.due("each its own", x.pumps(0), 7);
    Check.due("two", x.pumps(1), 3);
    Check.due("from without again", x.pumps(99), 1);
    x.turn(0, 0);
    Check.due("standing", x.pumps(99), 3);
    Check.due("no gates", Check.made("U2").pumps(9), NONE);
  }

  @Sentence(in = "Promise 25: pumps", says = "BAD: s.")
  @Broken(in = "public int pumps(", code = "s < 0", as = "s < -1")
  @Broken(in = "public int pumps(", code = "s > MOST_PUMP_SECONDS", as = "s > 100")
  @Broken(in = "public int pumps(", code = "if (s < 0 || s > MOST_PUMP_SECONDS)", as = "if (plan.gates > 0 && (s < 0 || s > MOST_PUMP_SECONDS))")
  static void pumpsIsRefused() {
    for (int s : new int[] {-1, 100, MIN, MAX}) {
      Check.due("s " + s, Check.made(TURNING).pumps(s), BAD);
      Check.due("s " + s + " without gates", Check.made("U2").pumps(s), BAD);
    }
  }
}
