import java.util.ArrayList;
import java.util.List;

/** The last part of the Terms: which refusals there are, which comes first of several, that they change nothing. */
public final class RefusalsTest {
  private static final int UNKNOWN = Check.UNKNOWN, BAD = Check.BAD, LATE = Check.LATE, FULL = Check.FULL;
  /** 59 bytes, eight gates, one at least on each ring. */
  private static final String CITY = "U9R01r12R20" + "G00530G10001G11012G21023G00034G11040G10050G21060";

  public static void main(String[] args) {
    Sentences.run(RefusalsTest.class);
  }

  private interface Call {
    int on(ThreeRings x);
  }

  @Sentence(in = "Terms", says = "5 REFUSALS: UNKNOWN -1 (there is no such RING, GATE, SECOND, SLOT), BAD -2, LATE -3, FULL -4.")
  @Broken(code = "UNKNOWN = -1", as = "UNKNOWN = -5")
  @Broken(code = "BAD = -2", as = "BAD = -6")
  @Broken(code = "LATE = -3", as = "LATE = -7")
  @Broken(code = "FULL = -4", as = "FULL = -8")
  @Broken(in = "public int pace(", code = ": UNKNOWN", as = ": BAD")
  @Broken(in = "public int where(", code = "return UNKNOWN;", as = "return BAD;")
  @Broken(in = "public int keep(", code = "return UNKNOWN;", as = "return BAD;")
  static void refusals() throws Exception {
    String[] names = {"UNKNOWN", "BAD", "LATE", "FULL"};
    for (int n = 0; n < 4; n++) Check.due(names[n], ThreeRings.class.getField(names[n]).getInt(null), -1 - n);
    ThreeRings x = prepared();
    Check.due("no such ring", x.pace(3), -1);
    Check.due("no such gate", x.where(8, 0), -1);
    Check.due("no such second", x.where(0, 300), -1);
    Check.due("no such slot", x.keep(2), -1);
    Check.due("bad", x.about(4), -2);
    Check.due("late", x.city(), -3);
    Check.due("full", x.write(1, 0), -4);
  }

  @Sentence(in = "Terms", says = "NONE is -9.")
  @Broken(code = "NONE = -9", as = "NONE = -10")
  @Broken(in = "public int next(", code = "? NONE : t + wait", as = "? UNKNOWN : t + wait")
  static void none() throws Exception {
    Check.due("NONE", ThreeRings.class.getField("NONE").getInt(null), -9);
    ThreeRings x = Check.made("U2G00000G11050");
    Check.due("fault", x.fault(), -9);
    Check.due("next", x.next(0, 1, 0), -9);
    Check.due("meet", x.meet(3, 0), -9);
    Check.due("soonest", x.soonest(0, 0, 1), -9);
    Check.due("step", x.step(0, 0, 1, 0, 0), -9);
    Check.due("latest", x.latest(0, 1, 299), -9);
    Check.due("round", x.round(0, 0, 2), -9);
    Check.due("bestBrake", x.bestBrake(0, 1, 0, 0, 1), -9);
    Check.due("harm", x.harm(0, 1, 0, 0, 1), -9);
    Check.due("worst", x.worst(0, 1), -9);
    Check.due("pumps", new ThreeRings().pumps(0), -9);
    x.see(0, 1, 0);
    Check.due("likely", x.likely(0, true), -9);
  }

  @Sentence(in = "Terms", says = "Of several what is told first.")
  @Broken(in = "public int write(", code = "return BAD;", as = "return textLength > 51 ? FULL : BAD;")
  @Broken(in = "public int gate(", code = "return UNKNOWN;", as = "return what > 3 ? BAD : UNKNOWN;")
  @Broken(in = "public int turn(", code = "return UNKNOWN;", as = "return p > 9 ? BAD : UNKNOWN;")
  @Broken(in = "public int brake(", code = "return UNKNOWN;", as = "return d > 99 ? BAD : UNKNOWN;")
  @Broken(in = "public int meet(", code = "return UNKNOWN;", as = "return gates == 0 ? BAD : UNKNOWN;")
  @Broken(in = "public int step(", code = "return UNKNOWN;", as = "return what > 1 ? BAD : UNKNOWN;")
  @Broken(in = "public int round(", code = "return UNKNOWN;", as = "return stops > 255 ? BAD : UNKNOWN;")
  @Broken(in = "private int refuseBestBrake(", code = "return UNKNOWN;", as = "return d > 99 ? BAD : UNKNOWN;")
  @Broken(in = "public int see(", code = "return UNKNOWN;", as = "return gate == other ? BAD : UNKNOWN;")
  @Broken(in = "public int see(", code = "return UNKNOWN;", as = "return now.seen == 8 ? FULL : UNKNOWN;")
  @Broken(in = "public int see(", code = "return BAD;", as = "return now.seen == 8 ? FULL : BAD;")
  @Broken(in = "public int again(", code = "return UNKNOWN;", as = "return slot1.kept ? UNKNOWN : LATE;")
  static void whatIsToldFirst() {
    ThreeRings x = prepared();
    Check.due("write: BAD, FULL", x.write(9, 0), BAD);
    Check.due("gate: UNKNOWN, BAD", x.gate(8, 4), UNKNOWN);
    Check.due("turn: UNKNOWN, BAD", x.turn(3, 10), UNKNOWN);
    Check.due("brake: UNKNOWN, BAD", x.brake(3, 100, 100), UNKNOWN);
    Check.due("meet: UNKNOWN, BAD", x.meet(0, 300), UNKNOWN);
    Check.due("step: UNKNOWN gate, BAD", x.step(8, 0, 0, 0, 2), UNKNOWN);
    Check.due("step: UNKNOWN second, BAD", x.step(0, 300, 0, 0, 2), UNKNOWN);
    Check.due("round: UNKNOWN gate, BAD", x.round(8, 0, 256), UNKNOWN);
    Check.due("round: UNKNOWN second, BAD", x.round(0, 300, 256), UNKNOWN);
    Check.due("bestBrake: UNKNOWN ring, BAD", x.bestBrake(3, 100, 0, 0, 0), UNKNOWN);
    Check.due("bestBrake: UNKNOWN gate, BAD", x.bestBrake(0, 100, 8, 0, 0), UNKNOWN);
    Check.due("bestBrake: UNKNOWN second, BAD", x.bestBrake(0, 100, 0, 300, 0), UNKNOWN);
    Check.due("bestBrake: UNKNOWN other, BAD", x.bestBrake(0, 100, 0, 0, 8), UNKNOWN);
    Check.due("harm: UNKNOWN ring, BAD", x.harm(3, 100, 0, 0, 0), UNKNOWN);
    Check.due("harm: UNKNOWN second, BAD", x.harm(0, 100, 0, 300, 0), UNKNOWN);
    Check.due("see: UNKNOWN, BAD, FULL", x.see(0, 0, 300), UNKNOWN);
    Check.due("see: UNKNOWN, FULL", x.see(0, 1, 300), UNKNOWN);
    Check.due("see: BAD, FULL", x.see(0, 0, 0), BAD);
    Check.due("again: UNKNOWN, LATE", x.again(2), UNKNOWN);
  }

  /** A text of 60 bytes with a fault, a city, brakes, eight seen, slot 0 kept, slot 1 not. */
  private static ThreeRings prepared() {
    ThreeRings x = Check.made(CITY);
    x.write(1, 'G');
    x.turn(0, 7);
    for (int r = 0; r < 3; r++) x.brake(r, 20 + r, 30 + r);
    for (int n = 0; n < 7; n++) x.see(0, 1, 1);
    x.keep(0);
    x.see(1, 3, 2);
    x.turn(1, -8);
    for (int r = 0; r < 3; r++) x.brake(r, 10 + r, 40 + r);
    return x;
  }

  @Sentence(in = "Terms", says = "What is refused changes nothing.")
  @Broken(in = "public int write(", code = "return BAD;", as = "textLength = 59;\n return BAD;")
  @Broken(in = "public int write(", code = "return FULL;", as = "text[0] = 0;\n return FULL;")
  @Broken(in = "public int city(", code = "return LATE;", as = "plan.takeFrom(reader.draft);\n plan.gates = 7;\n return LATE;")
  @Broken(in = "public int city(", code = "return LATE;", as = "now.startWith(reader.draft.firstPace);\n return LATE;")
  @Broken(in = "public int city(", code = "return LATE;", as = "slot0.kept = false;\n return LATE;")
  @Broken(in = "public int turn(", code = "return UNKNOWN;", as = "now.pace[0] = p;\n return UNKNOWN;")
  @Broken(in = "public int turn(", code = "return BAD;", as = "now.pace[ring] = 9;\n return BAD;")
  @Broken(in = "public int brake(", code = "return UNKNOWN;", as = "now.setBrake(2, s, d);\n return UNKNOWN;")
  @Broken(in = "public int brake(", code = "return BAD;", as = "now.setBrake(ring, 0, 0);\n return BAD;")
  @Broken(in = "public int dry(", code = "return BAD;", as = "now.slow(1, 1);\n return BAD;")
  @Broken(in = "public int share(", code = "return UNKNOWN;", as = "now.clearBrakes();\n return UNKNOWN;")
  @Broken(in = "private int refuseBestBrake(", code = "return UNKNOWN;", as = "now.setBrake(0, t, d);\n return UNKNOWN;")
  @Broken(in = "public int see(", code = "return UNKNOWN;", as = "now.seenAt[0] = t;\n return UNKNOWN;")
  @Broken(in = "public int see(", code = "return BAD;", as = "now.seen = 7;\n return BAD;")
  @Broken(in = "public int see(", code = "return FULL;", as = "now.seen = 0;\n now.addSeen(gate, other, t);\n return FULL;")
  @Broken(in = "public int keep(", code = "return UNKNOWN;", as = "slot0.takeFrom(now);\n return UNKNOWN;")
  @Broken(in = "public int keep(", code = "return UNKNOWN;", as = "slot1.kept = true;\n return UNKNOWN;")
  @Broken(in = "public int again(", code = "return UNKNOWN;", as = "now.takeFrom(slot0);\n return UNKNOWN;")
  @Broken(in = "public int again(", code = "return LATE;", as = "now.takeFrom(from);\n return LATE;")
  static void whatIsRefusedChangesNothing() {
    String want = allThatIs(prepared());
    Check.holds("some paces fit what is seen", prepared().rows() > 0);
    int[] refusals = {UNKNOWN, BAD, LATE, FULL};
    for (int refusal : refusals) {
      for (Call call : callsThatAre(refusal)) {
        ThreeRings x = prepared();
        Check.due("refused", call.on(x), refusal);
        Check.holds("nothing is changed by a refusal " + refusal, allThatIs(x).equals(want));
      }
    }
  }

  private static List<Call> callsThatAre(int refusal) {
    if (refusal == UNKNOWN) return unknown();
    if (refusal == BAD) return bad();
    if (refusal == LATE) return List.of(x -> x.city(), x -> x.again(1));
    return List.of(x -> x.write(1, 'U'), x -> x.write(8, 0), x -> x.see(4, 3, 0), x -> x.see(0, 1, 54));
  }

  private static List<Call> unknown() {
    List<Call> calls = new ArrayList<>();
    for (int n : new int[] {-1, 300, Integer.MAX_VALUE, Integer.MIN_VALUE}) {
      calls.addAll(List.of(x -> x.gate(n, 0), x -> x.pace(n), x -> x.turn(n, 3), x -> x.brake(n, 1, 1)));
      calls.addAll(List.of(x -> x.where(n, 0), x -> x.where(0, n), x -> x.open(n, 0, 0), x -> x.open(0, n, 0)));
      calls.addAll(List.of(x -> x.open(0, 1, n), x -> x.next(n, 0, 0), x -> x.next(0, n, 0), x -> x.next(0, 1, n)));
      calls.addAll(List.of(x -> x.stays(n, 0, 0), x -> x.stays(0, n, 0), x -> x.stays(0, 1, n)));
      calls.addAll(List.of(x -> x.share(n, 0, true), x -> x.share(0, n, true), x -> x.meet(3, n)));
      calls.addAll(List.of(x -> x.soonest(n, 0, 1), x -> x.soonest(0, n, 1), x -> x.soonest(0, 0, n)));
      calls.addAll(List.of(x -> x.step(n, 0, 1, 0, 0), x -> x.step(0, n, 1, 0, 0), x -> x.step(0, 0, n, 0, 0)));
      calls.addAll(List.of(x -> x.latest(n, 0, 9), x -> x.latest(0, n, 9), x -> x.latest(0, 1, n)));
      calls.addAll(List.of(x -> x.round(n, 0, 0), x -> x.round(0, n, 0)));
      calls.addAll(List.of(x -> x.bestBrake(n, 1, 0, 0, 1), x -> x.bestBrake(0, 1, n, 0, 1)));
      calls.addAll(List.of(x -> x.bestBrake(0, 1, 0, n, 1), x -> x.bestBrake(0, 1, 0, 0, n)));
      calls.addAll(List.of(x -> x.harm(n, 1, 0, 0, 1), x -> x.harm(0, 1, n, 0, 1)));
      calls.addAll(List.of(x -> x.harm(0, 1, 0, n, 1), x -> x.harm(0, 1, 0, 0, n)));
      calls.addAll(List.of(x -> x.worst(n, 0), x -> x.worst(0, n)));
      calls.addAll(List.of(x -> x.see(n, 0, 0), x -> x.see(0, n, 0), x -> x.see(0, 1, n)));
      calls.addAll(List.of(x -> x.likely(n, true), x -> x.keep(n), x -> x.again(n)));
    }
    return calls;
  }

  private static List<Call> bad() {
    List<Call> calls = new ArrayList<>();
    for (int n : new int[] {-10, 256, Integer.MAX_VALUE, Integer.MIN_VALUE}) {
      calls.addAll(List.of(x -> x.write(n, 0), x -> x.about(n), x -> x.gate(0, n), x -> x.turn(1, n)));
      calls.addAll(List.of(x -> x.brake(1, n, 1), x -> x.brake(1, 1, n), x -> x.dry(n)));
      calls.addAll(List.of(x -> x.meet(n, 0), x -> x.step(0, 0, 1, 0, n), x -> x.round(0, 0, n)));
      calls.addAll(List.of(x -> x.bestBrake(0, n, 0, 0, 1), x -> x.harm(0, n, 0, 0, 1), x -> x.pumps(n)));
    }
    calls.addAll(List.of(x -> x.write(0, 0), x -> x.meet(0, 0), x -> x.meet(4, 0), x -> x.see(3, 3, 0), x -> x.see(1, 2, 0)));
    return calls;
  }

  /** All that can be asked of an object, and what it kept: the object is used up by that. */
  private static String allThatIs(ThreeRings x) {
    StringBuilder all = new StringBuilder();
    for (int slot = -1; slot < 2; slot++) {
      if (slot >= 0) all.append(" again ").append(x.again(slot));
      for (int what = 0; what < 4; what++) all.append(' ').append(x.about(what));
      all.append(" rows ").append(x.rows());
      for (int r = 0; r < 3; r++) {
        all.append(' ').append(x.likely(r, false)).append(' ').append(x.likely(r, true));
        // a ring that stands shows nothing of its brake
        all.append(" pace ").append(x.turn(r, 1));
      }
      for (int g = 0; g < 8; g++) {
        for (int what = 0; what < 4; what++) all.append(' ').append(x.gate(g, what));
        for (int t = 0; t < 120; t++) all.append(' ').append(x.where(g, t));
      }
      for (int r = 0; r < 3; r++) all.append(" brake ").append(x.brake(r, 0, 0));
      all.append(" seen ").append(x.unsee());
    }
    return all.append(" fault ").append(x.fault()).append(" bytes ").append(x.wipe()).toString();
  }
}
