/** Promises 18 to 21 and the Terms that they rest on: the soonest way, its steps, the latest start, rounds. */
public final class WaysTest {
  private static final int UNKNOWN = Check.UNKNOWN, BAD = Check.BAD, NONE = Check.NONE;
  private static final int MIN = Integer.MIN_VALUE, MAX = Integer.MAX_VALUE;
  /** All stand: through, five parts round, through. */
  private static final String STANDING = "U2G00000G11000G10050G21050";
  /** Ring 0 has turned by 5 when they are opposite. */
  private static final String TURNING = "U2R01G00000G11050";
  /** Twins on ring 1, both opposite gate 3, both three parts from gate 2. */
  private static final String TWINS = "U2G11000G11000G10030G00000";

  public static void main(String[] args) {
    Sentences.run(WaysTest.class);
  }

  // ---- Terms: A WAY, SOONEST

  @Sentence(in = "Terms", says = "A WAY: one is at a GATE at a second;")
  @Broken(in = "void spread(", code = "arrive[from] = t;", as = "arrive[from] = t + 1;")
  @Broken(in = "void spread(", code = "arrive[from] = t;", as = "")
  static void oneIsAtAGate() {
    ThreeRings x = Check.made(STANDING);
    for (int g = 0; g < 4; g++) {
      for (int t : new int[] {0, 1, 150, 299}) Check.due("one is there", x.soonest(g, t, g), t);
    }
  }

  @Sentence(in = "Terms", says = "one goes round to another GATE of the RING (as many seconds as parts are between their places as told, the shorter way round; 1 at least),")
  @Broken(in = "int walk(", code = "Math.max(1, Math.min(apart, parts - apart))", as = "Math.min(apart, parts - apart)")
  @Broken(in = "int walk(", code = "Math.min(apart, parts - apart)", as = "apart")
  @Broken(in = "int walk(", code = "Math.min(apart, parts - apart)", as = "parts - apart")
  @Broken(in = "int walk(", code = "Math.abs(place[a] - place[b])", as = "Math.max(0, place[a] - place[b])")
  @Broken(in = "int walk(", code = "int apart = Math.abs(place[a] - place[b]);", as = "int apart = Math.abs(place[a] + (kind[a] == 3 ? 1 : 0) - place[b]);")
  @Broken(in = "private int reach(", code = "plan.ring[from] == plan.ring[to]", as = "plan.ring[from] == plan.ring[to] && plan.rim[from] == plan.rim[to]")
  static void oneGoesRound() {
    for (int u : new int[] {2, 9}) {
      for (int apart = 0; apart < 6 * u; apart++) {
        for (String rims : new String[] {"0000", "1010", "1011", "1111", "2121"}) {
          String text = "U" + u + "R05R15R25G" + rims.substring(0, 2) + "000G" + rims.substring(2)
              + Check.twoFigures(apart) + "0";
          ThreeRings x = Check.made(text);
          x.brake(0, 0, 7);
          int seconds = Math.max(1, Math.min(apart, 6 * u - apart));
          Check.due("there, " + text, x.soonest(0, 4, 1), 4 + seconds);
          Check.due("back, " + text, x.soonest(1, 299, 0), 299 + seconds);
        }
      }
    }
    Check.due("places as told, KIND 3", Check.made("U2G11033G10050").soonest(0, 1, 1), 3);
    Check.due("places as told, KIND 3", Check.made("U2G11050G10033").soonest(0, 1, 1), 3);
  }

  @Sentence(in = "Terms", says = "waits, goes through a JOIN that is OPEN (a second; one is at the other GATE then).")
  @Broken(in = "private int reach(", code = "t + wait + 1", as = "t + wait")
  @Broken(in = "private int reach(", code = "t + wait + 1", as = "t + 1")
  @Broken(in = "private int reach(", code = "table.joinOf(from, to)", as = "table.joinOf(to, from)")
  @Broken(in = "private int reach(", code = "wait == NEVER ? NEVER", as = "wait > 0 ? NEVER")
  static void oneWaitsAndGoesThrough() {
    ThreeRings x = Check.made(TURNING);
    for (int t = 0; t < 300; t++) {
      int want = t + Math.floorMod(5 - t, 12) + 1;
      Check.due("inwards from " + t, x.soonest(0, t, 1), want);
      Check.due("outwards from " + t, x.soonest(1, t, 0), want);
    }
    x.brake(0, 3, 99);
    Check.due("held up", x.soonest(0, 0, 1), 105);
    ThreeRings inwards = Check.made("U2G00002G11000");
    Check.due("KIND 2 inwards", inwards.soonest(0, 5, 1), 6);
    Check.due("KIND 2 outwards", inwards.soonest(1, 5, 0), NONE);
    ThreeRings thirds = Check.made("U2G00004G11000");
    Check.due("KIND 4, waiting", thirds.soonest(0, 1, 1), 4);
    Check.due("KIND 4, at once", thirds.soonest(1, 3, 0), 4);
  }

  @Sentence(in = "Terms", says = "SOONEST: the second at which one can be at a GATE from another one at t; NONE: never.")
  @Broken(in = "void spread(", code = "arrive[to] = Math.min(arrive[to], reach(gate, to, arrive[gate]));", as = "arrive[to] = Math.min(arrive[to], gate == from ? reach(gate, to, arrive[gate]) : NEVER);")
  @Broken(in = "private int soonestOf(", code = "&& arrive[g] < best", as = "&& arrive[g] < NEVER && found < 0")
  @Broken(in = "private static int orNone(", code = "second >= NEVER ? NONE : second", as = "second")
  @Broken(in = "void spread(", code = "Arrays.fill(arrive, NEVER);", as = "Arrays.fill(arrive, SECONDS);")
  static void soonestOfAllWays() {
    ThreeRings x = Check.made(STANDING);
    Check.due("through, round, through", x.soonest(0, 0, 3), 7);
    Check.due("and back", x.soonest(3, 10, 0), 17);
    ThreeRings round = Check.made("U2R01G00000G00030G11060");
    Check.due("sooner by another gate of the ring", round.soonest(0, 0, 2), 4);
    Check.due("as soon by its own gate", round.soonest(0, 6, 2), 7);
    Check.due("sooner by another gate, waiting there", round.soonest(0, 7, 2), 16);
    // half a turn round, but ring 0 brings its gate to where one waits on ring 1
    Check.due("by another ring", Check.made("U9R09G00000G00270G11000").soonest(0, 0, 1), 4);
    // gate 1 is found late and by three others, the last of them the least
    ThreeRings late = Check.made("U9G11100G11120G11090G11050G00000G11000");
    Check.due("each found at its soonest", late.soonest(4, 0, 1), 13);
    Check.due("rings that stand apart", Check.made("U2G00000G11050").soonest(0, 0, 1), NONE);
    Check.due("rings without a gate between", Check.made("U2G00000G21000").soonest(0, 0, 1), NONE);
    Check.due("one ring's rims are no join", Check.made("U2G00000G11000G21000").soonest(0, 0, 2), NONE);
    ThreeRings once = Check.made("U2R01R11G00000G11000");
    once.brake(0, 5, 1);
    Check.due("for the last time", once.soonest(0, 5, 1), 6);
    Check.due("never any more", once.soonest(0, 6, 1), NONE);
  }

  @Sentence(in = "Terms", says = "Its STEPS, told from its end: the GATE ahead of one is that which, left at the soonest one can be there, brings one there as soon as one can be (the least such GATE).")
  @Broken(in = "private int gateAhead(", code = "for (int g = 0; g < plan.gates; g++)", as = "for (int g = plan.gates - 1; g >= 0; g--)")
  @Broken(in = "private int gateAhead(", code = "reach(g, gate, arrive[g]) == arrive[gate]", as = "reach(g, gate, arrive[g]) < NEVER")
  @Broken(in = "private int gateAhead(", code = "reach(g, gate, arrive[g])", as = "reach(gate, g, arrive[g])")
  @Broken(in = "int gateOfStep(", code = "int gate = to;\n            for (int n = length; n > step; n--)", as = "int gate = to;\n            for (int n = 0; n < step; n++)")
  static void stepsToldFromTheirEnd() {
    ThreeRings x = Check.made(STANDING);
    steps(x, 0, 299, 3, new int[] {0, 1, 2, 3}, new int[] {299, 300, 305, 306});
    steps(x, 3, 0, 0, new int[] {3, 2, 1, 0}, new int[] {0, 1, 6, 7});
    ThreeRings twins = Check.made(TWINS);
    steps(twins, 3, 0, 2, new int[] {3, 0, 2}, new int[] {0, 1, 4});
    steps(Check.made("U2G00002G11000"), 0, 9, 1, new int[] {0, 1}, new int[] {9, 10});
    // gate 0 is on the way round, and less than gate 1
    steps(Check.made("U2G10020G11000G10030G00000"), 3, 0, 2, new int[] {3, 1, 0, 2}, new int[] {0, 1, 3, 4});
    // gate 1 is on the way round, but greater than gate 0
    steps(Check.made("U2G11000G10020G10030G00000"), 3, 0, 2, new int[] {3, 0, 2}, new int[] {0, 1, 4});
    // from its end the least is 0, and 3 ahead of that; from its beginning the least would be 2
    steps(Check.made("U2G10090G10030G11010G11110G00001G10060"), 4, 0, 5, new int[] {4, 3, 0, 5}, new int[] {0, 1, 3, 6});
    // one who waits at gate 1 left there as soon as could be, at 3
    steps(Check.made("U2R01G00000G00030G11060G11110"), 0, 0, 2, new int[] {0, 1, 2}, new int[] {0, 3, 4});
    steps(Check.made("U2R01G00000G00010G11060"), 0, 0, 2, new int[] {0, 1, 2}, new int[] {0, 1, 6});
  }

  private static void steps(ThreeRings x, int gate, int t, int other, int[] gates, int[] seconds) {
    for (int i = 0; i < gates.length; i++) {
      Check.due("gate of step " + i, x.step(gate, t, other, i, 0), gates[i]);
      Check.due("second of step " + i, x.step(gate, t, other, i, 1), seconds[i]);
    }
    Check.due("no more", x.step(gate, t, other, gates.length, 0), NONE);
  }

  // ---- Terms: LATEST, A ROUND

  @Sentence(in = "Terms", says = "LATEST: the last second (0 .. by) at which one can leave a GATE to be at another one by a told second (then, or sooner); NONE.")
  @Broken(in = "int lastStart(", code = "arrive[to] <= by", as = "arrive[to] < by")
  @Broken(in = "int lastStart(", code = "arrive[to] <= by", as = "arrive[to] == by")
  @Broken(in = "int lastStart(", code = "int high = by;", as = "int high = by - 1;")
  @Broken(in = "int lastStart(", code = "int low = 0;", as = "int low = 1;")
  @Broken(in = "int lastStart(", code = "int good = NONE;", as = "int good = 0;")
  @Broken(in = "int lastStart(", code = "low = middle + 1;", as = "break;")
  static void lastSecondToLeave() {
    ThreeRings x = Check.made(STANDING);
    for (int by = 0; by < 300; by++) {
      Check.due("by " + by, x.latest(0, 3, by), by < 7 ? NONE : by - 7);
      Check.due("itself by " + by, x.latest(2, 2, by), by);
    }
    ThreeRings turning = Check.made(TURNING);
    for (int by = 0; by < 300; by++) {
      Check.due("then, or sooner, by " + by, turning.latest(0, 1, by), by < 6 ? NONE : (by - 6) / 12 * 12 + 5);
    }
    Check.due("never", Check.made("U2G00000G11050").latest(0, 1, 299), NONE);
    ThreeRings once = Check.made("U2R01R11G00000G11000");
    once.brake(0, 0, 1);
    Check.due("only at second 0", once.latest(0, 1, 299), 0);
    Check.due("only at second 0, in time", once.latest(0, 1, 1), 0);
    Check.due("too late for that", once.latest(0, 1, 0), NONE);
  }

  @Sentence(in = "Terms", says = "A ROUND: from a GATE at t through told GATES in any order, then back to it: the soonest end; NONE.")
  @Broken(in = "int endOfRound(", code = "end = Math.min(end, arrive[gate]);", as = "end = Math.min(end, at);")
  @Broken(in = "int endOfRound(", code = "end = Math.min(end, arrive[gate]);", as = "end = arrive[gate];")
  @Broken(in = "int endOfRound(", code = "int all = stops & ~(1 << gate);", as = "int all = stops & ~(1 << gate) & ~128;")
  @Broken(in = "void addStops(", code = "soonestWith[state] = Math.min(soonestWith[state], arrive[stop]);", as = "soonestWith[state] = arrive[stop];")
  @Broken(in = "void addStops(", code = "((all & ~made) >> stop & 1) != 0", as = "((all & ~made) >> stop) == 1")
  @Broken(in = "int endOfRound(", code = "soonestWith[gate] = t;", as = "soonestWith[gate] = 0;")
  @Broken(in = "int waitFor(", code = "if (rest >= WAIT_NEVER) {\n                rest = NEVER;\n            }", as = "")
  static void roundInAnyOrder() {
    ThreeRings x = Check.made(STANDING);
    Check.due("there and back", x.round(0, 3, 0b1000), 17);
    Check.due("gates on the way", x.round(0, 3, 0b1111), 17);
    Check.due("not so far", x.round(0, 3, 0b0110), 15);
    ThreeRings ring = Check.made("U9G00000G00200G00500G00100");
    Check.due("the best order", ring.round(0, 0, 0b1110), 48);
    Check.due("two stops", ring.round(0, 7, 0b1010), 47);
    // once about the whole ring, gates told in no order of places
    ThreeRings whole = Check.made("U9G00000G00300G00120G00480G00240G00060G00420G00180");
    Check.due("all eight", whole.round(0, 299, 255), 299 + 54);
    Check.due("all eight from another", whole.round(7, 0, 255), 54);
    Check.due("the eighth alone", whole.round(0, 0, 128), 36);
    Check.due("the first alone", whole.round(7, 0, 1), 36);
    ThreeRings turning = Check.made(TURNING);
    Check.due("there, and back a turn later", turning.round(0, 0, 2), 18);
    // each join is just missed: at 352, 407, 461 and 514
    Check.due("long past 299", Check.made("U9R01R21G00000G11280G10290G21000").round(0, 299, 8), 515);
    ThreeRings oneWay = Check.made("U2G00002G11000");
    Check.due("no way back", oneWay.round(0, 0, 2), NONE);
    Check.due("no way there", oneWay.round(1, 0, 1), NONE);
    Check.due("no way to one of two", Check.made("U2G00000G00010G11060").round(0, 0, 0b110), NONE);
  }

  // ---- Promises 18 to 21

  @Sentence(in = "Promise 18: soonest", says = "SOONEST; NONE.")
  @Broken(in = "public int soonest(", code = "table.lay(now);", as = "")
  @Broken(in = "public int soonest(", code = "ways.arrive[other]", as = "ways.arrive[gate]")
  @Broken(in = "public int soonest(", code = "ways.spread(gate, t);", as = "ways.spread(other, t);")
  @Broken(in = "private static int orNone(", code = "? NONE : second", as = "? UNKNOWN : second")
  static void soonest() {
    ThreeRings x = Check.made("U2R01G00002G11050");
    Check.due("there", x.soonest(0, 0, 1), 6);
    Check.due("not back", x.soonest(1, 0, 0), NONE);
    x.turn(0, -1);
    Check.due("turned otherwise", x.soonest(0, 0, 1), 8);
    x.brake(0, 7, 9);
    Check.due("braked", x.soonest(0, 9, 1), 10);
    x.turn(0, 0);
    Check.due("standing", x.soonest(0, 0, 1), NONE);
  }

  @Sentence(in = "Promise 18: soonest", says = "UNKNOWN: gates, second.")
  @Broken(in = "public int soonest(", code = "!areGates(gate, other) || !isSecond(t)", as = "!areGates(gate, other)")
  @Broken(in = "public int soonest(", code = "!areGates(gate, other) || !isSecond(t)", as = "!areGates(gate, 0) || !isSecond(t)")
  @Broken(in = "public int soonest(", code = "!areGates(gate, other) || !isSecond(t)", as = "!areGates(0, other) || !isSecond(t)")
  static void soonestIsRefused() {
    ThreeRings x = Check.made(STANDING);
    for (int g : Check.noGates(4)) {
      Check.due("gate " + g, x.soonest(g, 0, 1), UNKNOWN);
      Check.due("other " + g, x.soonest(0, 0, g), UNKNOWN);
      Check.due("itself " + g, x.soonest(g, 0, g), UNKNOWN);
    }
    for (int t : Check.NO_SECONDS) Check.due("second " + t, x.soonest(0, t, 1), UNKNOWN);
  }

  @Sentence(in = "Promise 18: soonest", says = "(It may be later than 299.)")
  @Broken(in = "private static int orNone(", code = "second >= NEVER", as = "second >= SECONDS")
  @Broken(in = "public int soonest(", code = "orNone(ways.arrive[other])", as = "Math.min(299, orNone(ways.arrive[other]))")
  static void soonestMayBeLaterThan299() {
    ThreeRings x = Check.made(STANDING);
    Check.due("just within", x.soonest(0, 292, 3), 299);
    Check.due("just without", x.soonest(0, 293, 3), 300);
    Check.due("from the last second", x.soonest(0, 299, 3), 306);
    // each join is just missed: at 352, then at 407
    Check.due("far without", Check.made("U9R01R21G00000G11280G10290G21000").soonest(0, 299, 3), 408);
  }

  @Sentence(in = "Promise 19: step", says = "Of the i-th GATE of its STEPS (0: where it begins) the GATE (what = 0), the second at which one is there (1);")
  @Broken(in = "public int step(", code = "what == 0 ? at : ways.arrive[at]", as = "what == 1 ? at : ways.arrive[at]")
  @Broken(in = "public int step(", code = "what == 0 ? at : ways.arrive[at]", as = "what == 0 ? at : ways.arrive[at] - t")
  @Broken(in = "public int step(", code = "ways.gateOfStep(gate, other, i)", as = "ways.gateOfStep(gate, other, i + 1)")
  @Broken(in = "public int step(", code = "table.lay(now);", as = "")
  static void step() {
    ThreeRings x = Check.made("U2R01G00000G11000G10050G21050");
    x.turn(0, 0);
    Check.due("where it begins", x.step(0, 7, 3, 0, 0), 0);
    Check.due("when it begins", x.step(0, 7, 3, 0, 1), 7);
    Check.due("a gate between", x.step(0, 7, 3, 2, 0), 2);
    Check.due("when", x.step(0, 7, 3, 2, 1), 13);
    Check.due("where it ends", x.step(0, 7, 3, 3, 0), 3);
    Check.due("when it ends", x.step(0, 7, 3, 3, 1), x.soonest(0, 7, 3));
    Check.due("to itself", x.step(1, 8, 1, 0, 0), 1);
    Check.due("to itself, when", x.step(1, 8, 1, 0, 1), 8);
    // eight gates, seven steps
    ThreeRings down = Check.made("U2G10050G11040G11030G11020G11010G11000G00000G21050");
    int[] each = {6, 5, 4, 3, 2, 1, 0, 7};
    for (int i = 0; i < 8; i++) {
      Check.due("each of eight, " + i, down.step(6, 292, 7, i, 0), each[i]);
      Check.due("each of eight, when, " + i, down.step(6, 292, 7, i, 1), 292 + i);
    }
    Check.due("none behind eight", down.step(6, 292, 7, 8, 0), NONE);
  }

  @Sentence(in = "Promise 19: step", says = "NONE: there is none such (also for i below 0).")
  @Broken(in = "int gateOfStep(", code = "step < 0 || step > length", as = "step > length")
  @Broken(in = "int gateOfStep(", code = "step < 0 || step > length", as = "step < 0")
  @Broken(in = "int gateOfStep(", code = "step < 0 || step > length", as = "step < 0 || step > length + 1")
  @Broken(in = "private int stepsTo(", code = "if (arrive[to] >= NEVER) {\n                return -1;", as = "if (arrive[to] >= NEVER) {\n                return 0;")
  @Broken(in = "public int step(", code = "return NONE;", as = "return UNKNOWN;")
  static void noSuchStep() {
    ThreeRings x = Check.made(STANDING);
    for (int what = 0; what < 2; what++) {
      for (int i : new int[] {-1, -2, MIN, 4, 5, 8, MAX}) {
        Check.due("step " + i, x.step(0, 0, 3, i, what), NONE);
      }
      for (int i : new int[] {-1, MIN, 1, 2, MAX}) Check.due("to itself, step " + i, x.step(1, 8, 1, i, what), NONE);
      ThreeRings never = Check.made("U2G00000G11050");
      for (int i : new int[] {-1, 0, 1, 2}) Check.due("no way, step " + i, never.step(0, 0, 1, i, what), NONE);
    }
  }

  @Sentence(in = "Promise 19: step", says = "UNKNOWN; BAD: what.")
  @Broken(in = "public int step(", code = "!areGates(gate, other) || !isSecond(t)", as = "!areGates(gate, other)")
  @Broken(in = "public int step(", code = "!areGates(gate, other) || !isSecond(t)", as = "!areGates(gate, 0) || !isSecond(t)")
  @Broken(in = "public int step(", code = "!areGates(gate, other) || !isSecond(t)", as = "!areGates(0, other) || !isSecond(t)")
  @Broken(in = "public int step(", code = "what < 0", as = "what < -1")
  @Broken(in = "public int step(", code = "what > 1", as = "what > 2")
  @Broken(in = "public int step(", code = "return UNKNOWN;", as = "return what > 1 ? BAD : UNKNOWN;")
  @Broken(in = "public int step(", code = "if (what < 0 || what > 1)", as = "if (i >= 0 && (what < 0 || what > 1))")
  static void stepIsRefused() {
    ThreeRings x = Check.made(STANDING);
    for (int what : new int[] {-1, 0, 1, 2}) {
      for (int g : Check.noGates(4)) {
        Check.due("gate " + g, x.step(g, 0, 1, 0, what), UNKNOWN);
        Check.due("other " + g, x.step(0, 0, g, 0, what), UNKNOWN);
      }
      for (int t : Check.NO_SECONDS) Check.due("second " + t, x.step(0, t, 1, -1, what), UNKNOWN);
    }
    for (int what : new int[] {-1, 2, MIN, MAX}) {
      for (int i : new int[] {-1, 0, 3, 4}) Check.due("what " + what, x.step(0, 0, 3, i, what), BAD);
      Check.due("what " + what + ", no way", Check.made("U2G00000G11050").step(0, 0, 1, 0, what), BAD);
    }
  }

  @Sentence(in = "Promise 20: latest", says = "LATEST; NONE.")
  @Broken(in = "public int latest(", code = "table.lay(now);", as = "")
  @Broken(in = "public int latest(", code = "ways.lastStart(gate, other, by)", as = "ways.lastStart(other, gate, by)")
  @Broken(in = "int lastStart(", code = "int good = NONE;", as = "int good = UNKNOWN;")
  static void latest() {
    ThreeRings x = Check.made("U2R01G00002G11050");
    Check.due("there", x.latest(0, 1, 40), 29);
    Check.due("not back", x.latest(1, 0, 40), NONE);
    Check.due("too early", x.latest(0, 1, 5), NONE);
    Check.due("in time", x.latest(0, 1, 6), 5);
    x.turn(0, -1);
    Check.due("turned otherwise", x.latest(0, 1, 40), 31);
    x.brake(0, 31, 99);
    Check.due("held open", x.latest(0, 1, 40), 39);
  }

  @Sentence(in = "Promise 20: latest", says = "UNKNOWN: gates, second.")
  @Broken(in = "public int latest(", code = "!areGates(gate, other) || !isSecond(by)", as = "!areGates(gate, other)")
  @Broken(in = "public int latest(", code = "!areGates(gate, other) || !isSecond(by)", as = "!areGates(gate, 0) || !isSecond(by)")
  @Broken(in = "public int latest(", code = "!areGates(gate, other) || !isSecond(by)", as = "!areGates(0, other) || !isSecond(by)")
  static void latestIsRefused() {
    ThreeRings x = Check.made(STANDING);
    for (int g : Check.noGates(4)) {
      Check.due("gate " + g, x.latest(g, 1, 9), UNKNOWN);
      Check.due("other " + g, x.latest(0, g, 9), UNKNOWN);
    }
    for (int by : Check.NO_SECONDS) Check.due("by " + by, x.latest(0, 1, by), UNKNOWN);
  }

  @Sentence(in = "Promise 21: round", says = "A ROUND; NONE.")
  @Broken(in = "public int round(", code = "table.lay(now);", as = "")
  @Broken(in = "public int round(", code = "orNone(ways.endOfRound(gate, t, stops))", as = "ways.endOfRound(gate, t, stops)")
  @Broken(in = "int endOfRound(", code = "made < all", as = "made < all - 1")
  static void round() {
    ThreeRings x = Check.made("U2R01G00000G11050G11002");
    Check.due("no stops", x.round(0, 3, 0), 3);
    Check.due("no stops at the last second", x.round(2, 299, 0), 299);
    Check.due("its own gate", x.round(0, 3, 1), 3);
    Check.due("another one", x.round(0, 3, 2), 18);
    Check.due("the first from another one", x.round(1, 3, 1), 18);
    Check.due("its own and another one", x.round(0, 3, 3), 18);
    Check.due("no way back but by gate 1", x.round(0, 3, 4), 18);
    x.turn(0, 0);
    Check.due("no way to another one", x.round(0, 3, 2), NONE);
    Check.due("no way needed", x.round(0, 3, 1), 3);
  }

  @Sentence(in = "Promise 21: round", says = "UNKNOWN: gate, second; BAD: stops (bits of GATES).")
  @Broken(in = "public int round(", code = "!plan.hasGate(gate) || !isSecond(t)", as = "!plan.hasGate(gate)")
  @Broken(in = "public int round(", code = "!plan.hasGate(gate) || !isSecond(t)", as = "!isSecond(t)")
  @Broken(in = "public int round(", code = "!plan.hasGates(stops)", as = "stops < 0")
  @Broken(in = "public int round(", code = "!plan.hasGates(stops)", as = "stops > 255")
  @Broken(in = "public int round(", code = "!plan.hasGates(stops)", as = "!plan.hasGates(stops) || stops == 0")
  @Broken(in = "public int round(", code = "return UNKNOWN;", as = "return stops < 0 ? BAD : UNKNOWN;")
  static void roundIsRefused() {
    ThreeRings x = Check.made(STANDING);
    for (int stops : new int[] {0, 15, 16, -1}) {
      for (int g : Check.noGates(4)) Check.due("gate " + g, x.round(g, 0, stops), UNKNOWN);
      for (int t : Check.NO_SECONDS) Check.due("second " + t, x.round(0, t, stops), UNKNOWN);
    }
    for (int stops : Check.noBits(4)) Check.due("stops " + stops, x.round(0, 0, stops), BAD);
    Check.due("no stops are stops", x.round(0, 0, 0), 0);
    ThreeRings full = Check.made("U2" + "G00000".repeat(8));
    Check.due("all eight", full.round(0, 0, 255), 8);
    Check.due("a ninth", full.round(0, 0, 256), BAD);
  }
}
