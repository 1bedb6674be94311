/** Promises 18 to 21: the soonest way, its steps, the latest start, rounds. */
public final class WaysTest {
  private static final int UNKNOWN = ThreeRings.UNKNOWN, BAD = ThreeRings.BAD, NONE = ThreeRings.NONE;
  /** All stand: through, five parts round, through. */
  private static final String STANDING = "U2G00000G11000G10050G21050";

  public static void main(String[] args) {
    soonest();
    step();
    leastGateAhead();
    latest();
    round();
    Check.end("WaysTest");
  }

  private static void soonest() {
    ThreeRings x = Check.made(STANDING);
    Check.due("there", x.soonest(0, 0, 3), 7);
    Check.due("back", x.soonest(3, 10, 0), 17);
    Check.due("itself", x.soonest(2, 9, 2), 9);
    Check.due("later than 299", x.soonest(0, 299, 3), 306);
    Check.due("no gate", x.soonest(4, 0, 0), UNKNOWN);
    Check.due("no other", x.soonest(0, 0, -1), UNKNOWN);
    Check.due("no second", x.soonest(0, 300, 1), UNKNOWN);
    Check.due("1 at least", Check.made("U2G11030G10030").soonest(0, 4, 1), 5);
    Check.due("the shorter way round", Check.made("U2G11010G10110").soonest(0, 4, 1), 6);
    Check.due("KIND 3 is not asked for going round", Check.made("U2G11033G10050").soonest(0, 1, 1), 3);
    ThreeRings inwards = Check.made("U2G00002G11000");
    Check.due("KIND 2 inwards", inwards.soonest(0, 5, 1), 6);
    Check.due("KIND 2 outwards", inwards.soonest(1, 5, 0), NONE);
    ThreeRings thirds = Check.made("U2G00004G11000");
    Check.due("KIND 4, waiting", thirds.soonest(0, 1, 1), 4);
    Check.due("KIND 4, at once", thirds.soonest(1, 3, 0), 4);
    ThreeRings turning = Check.made("U2R01G00000G11050");
    Check.due("waiting", turning.soonest(0, 0, 1), 6);
    Check.due("at once", turning.soonest(0, 5, 1), 6);
    Check.due("just missed", turning.soonest(0, 6, 1), 18);
    turning.brake(0, 3, 99);
    Check.due("held up", turning.soonest(0, 0, 1), 105);
    ThreeRings round = Check.made("U2R01G00000G00030G11060");
    Check.due("sooner by another gate of the ring", round.soonest(0, 0, 2), 4);
    Check.due("as soon by its own gate", round.soonest(0, 6, 2), 7);
    Check.due("sooner by another gate, waiting there", round.soonest(0, 7, 2), 16);
  }

  private static void step() {
    ThreeRings x = Check.made(STANDING);
    int[] gates = {0, 1, 2, 3};
    int[] seconds = {299, 300, 305, 306};
    for (int i = 0; i < 4; i++) {
      Check.due("gate of step " + i, x.step(0, 299, 3, i, 0), gates[i]);
      Check.due("second of step " + i, x.step(0, 299, 3, i, 1), seconds[i]);
    }
    Check.due("behind the end", x.step(0, 0, 3, 4, 0), NONE);
    Check.due("below 0", x.step(0, 0, 3, -1, 1), NONE);
    Check.due("far behind the end", x.step(0, 0, 3, Integer.MAX_VALUE, 1), NONE);
    Check.due("far below 0", x.step(0, 0, 3, Integer.MIN_VALUE, 1), NONE);
    Check.due("itself", x.step(1, 8, 1, 0, 0), 1);
    Check.due("itself, when", x.step(1, 8, 1, 0, 1), 8);
    Check.due("itself, no more", x.step(1, 8, 1, 1, 0), NONE);
    Check.due("what", x.step(0, 0, 3, 0, 2), BAD);
    Check.due("what, ahead of none such", x.step(0, 0, 3, -1, -1), BAD);
    Check.due("no gate, ahead of what", x.step(4, 0, 3, 0, 2), UNKNOWN);
    Check.due("no second", x.step(0, -1, 3, 0, 0), UNKNOWN);
    ThreeRings never = Check.made("U2G00000G11050");
    Check.due("no way, no steps", never.step(0, 0, 1, 0, 0), NONE);
  }

  private static void leastGateAhead() {
    ThreeRings x = Check.made("U2G10030G11000G11060G00000G00060");
    // gate 3 or gate 4 to begin with; gate 0 is three parts from gates 1 and 2
    Check.due("one way", x.step(3, 0, 0, 1, 0), 1);
    Check.due("the other", x.step(4, 0, 0, 1, 0), 2);
    ThreeRings twins = Check.made("U2G11000G11000G10030G00000");
    Check.due("the least of two", twins.step(3, 0, 2, 1, 0), 0);
    Check.due("told from its end", twins.step(3, 0, 2, 2, 0), 2);
    ThreeRings turned = Check.made("U2G10030G11010G11001G00001");
    // through gate 2 (then three parts) or gate 1 (then two): sooner by gate 1
    Check.due("sooner by the nearer gate", turned.soonest(3, 0, 0), 3);
    Check.due("the nearer gate", turned.step(3, 0, 0, 1, 0), 1);
  }

  private static void latest() {
    ThreeRings x = Check.made(STANDING);
    Check.due("just so", x.latest(0, 3, 7), 0);
    Check.due("too early", x.latest(0, 3, 6), NONE);
    Check.due("late", x.latest(0, 3, 299), 292);
    Check.due("itself", x.latest(2, 2, 44), 44);
    Check.due("no gate", x.latest(0, 4, 9), UNKNOWN);
    Check.due("no second", x.latest(0, 1, 300), UNKNOWN);
    Check.due("no second", x.latest(0, 1, -1), UNKNOWN);
    ThreeRings turning = Check.made("U2R01G00000G11050");
    int[] by = {5, 6, 17, 18, 29, 30};
    int[] from = {NONE, 5, 5, 17, 17, 29};
    for (int i = 0; i < by.length; i++) Check.due("by " + by[i], turning.latest(0, 1, by[i]), from[i]);
    Check.due("never", Check.made("U2G00000G11050").latest(0, 1, 299), NONE);
  }

  private static void round() {
    ThreeRings x = Check.made(STANDING);
    Check.due("there and back", x.round(0, 3, 0b1000), 17);
    Check.due("gates on the way", x.round(0, 3, 0b1111), 17);
    Check.due("not so far", x.round(0, 3, 0b0110), 15);
    Check.due("no stops", x.round(0, 3, 0), 3);
    Check.due("its own gate", x.round(2, 3, 0b0100), 3);
    Check.due("no gate", x.round(4, 0, 0), UNKNOWN);
    Check.due("no second", x.round(0, 300, 99), UNKNOWN);
    Check.due("no stop", x.round(0, 0, 16), BAD);
    Check.due("below 0", x.round(0, 0, -1), BAD);
    ThreeRings ring = Check.made("U9G00000G00200G00500G00100");
    Check.due("the best order", ring.round(0, 0, 0b1110), 48);
    Check.due("two stops", ring.round(0, 7, 0b1010), 47);
    ThreeRings oneWay = Check.made("U2G00002G11000");
    Check.due("no way back", oneWay.round(0, 0, 2), NONE);
    Check.due("no way there", oneWay.round(1, 0, 1), NONE);
    Check.due("no way needed", oneWay.round(1, 0, 2), 0);
    // each join is just missed: at 352, 407, 461 and 514
    Check.due("long past 299", Check.made("U9R01R21G00000G11280G10290G21000").round(0, 299, 8), 515);
    ThreeRings turning = Check.made("U2R01G00000G11050");
    Check.due("there, and back a turn later", turning.round(0, 0, 2), 18);
  }
}
