/** Promises 22 to 25: the best brake, what it does to others, the worst wait, the fewest pumps. */
public final class BrakesTest {
  private static final int UNKNOWN = ThreeRings.UNKNOWN, BAD = ThreeRings.BAD, NONE = ThreeRings.NONE;
  /** Opposite when ring 0 has turned by 5. */
  private static final String TURNING = "U2R01G00000G11050";

  public static void main(String[] args) {
    bestBrake();
    harm();
    refusals();
    worst();
    pumps();
    Check.end("BrakesTest");
  }

  private static void bestBrake() {
    ThreeRings x = Check.made(TURNING);
    Check.due("the first that does not hold one up", x.bestBrake(0, 3, 0, 0, 1), 5);
    Check.due("one that does nothing", x.bestBrake(1, 3, 0, 0, 1), 0);
    Check.due("later than 299", x.bestBrake(0, 3, 0, 299, 1), 305);
    Check.due("itself", x.bestBrake(0, 3, 0, 7, 0), 7);
    Check.due("never", Check.made("U2G00000G11050").bestBrake(0, 9, 0, 0, 1), NONE);
    x.brake(0, 5, 50);
    Check.due("instead of its brake", x.bestBrake(0, 1, 0, 8, 1), 17);
    Check.due("nothing is changed", x.soonest(0, 8, 1), 9);
    Check.due("the other's brake as it is", x.bestBrake(1, 1, 0, 8, 1), 8);
    // ring 1 turns on at ring 0's pace: never opposite, but by a brake
    ThreeRings same = Check.made("U2R01R11G00000G11050");
    Check.due("never without", same.soonest(0, 2, 1), NONE);
    Check.due("held back for as long as it is ahead", same.bestBrake(1, 5, 0, 2, 1), 2);
    Check.due("too short", same.bestBrake(1, 4, 0, 2, 1), NONE);
    Check.due("as long as it takes", same.bestBrake(0, 7, 0, 2, 1), 2);
    // a brake from second 12 on would do no harm, but it is a turn away
    ThreeRings turnAway = Check.made("U2R21G11000G10060G21060");
    Check.due("without", turnAway.soonest(0, 0, 2), 13);
    Check.due("no second behind a turn", turnAway.bestBrake(2, 5, 0, 0, 2), 0);
    // the last candidate: one is there ahead of it, and all earlier ones hold one up
    Check.due("the last second that is looked at", Check.made("U2R01G00000G11110").bestBrake(0, 9, 0, 0, 1), 11);
  }

  private static void harm() {
    ThreeRings x = Check.made(TURNING);
    Check.due("none", x.harm(0, 3, 0, 0, 1), 0);
    Check.due("never", Check.made("U2G00000G11050").harm(0, 9, 0, 0, 1), NONE);
    x.brake(0, 5, 50);
    // of all pairs: from 0 to 1 and from 1 to 0, both 9 by the brake that is, 18 by the best of one second
    Check.due("all pairs", x.harm(0, 1, 0, 8, 1), 2);
    Check.due("the brake is as it was", x.brake(0, 5, 50), 50);
    // gates 2 and 3 are opposite at second 2, but not any more by the brake that brings 0 opposite 1
    ThreeRings two = Check.made("U9R01R11R22G00000G11050G10060G21040");
    Check.due("for one", two.bestBrake(1, 5, 0, 0, 1), 0);
    Check.due("for another", two.soonest(2, 0, 3), 3);
    Check.due("each pair asked", two.harm(1, 5, 0, 0, 1), harmByHand(two));
    ThreeRings missed = Check.made("U9R01R11R22G00000G11050G10060G21050");
    Check.due("missed by the brake: 2 to 3, 3 to 2, 1 to 3, 3 to 1", missed.harm(1, 5, 0, 0, 1), 4);
    Check.due("each pair asked", missed.harm(1, 5, 0, 0, 1), harmByHand(missed));
  }

  /** The same count by laying the brake and asking for each pair. */
  private static int harmByHand(ThreeRings x) {
    int[] was = new int[16];
    for (int g = 0; g < 16; g++) was[g] = x.soonest(g / 4, 0, g % 4);
    x.brake(1, 0, 5);
    int later = 0;
    for (int g = 0; g < 16; g++) {
      int is = x.soonest(g / 4, 0, g % 4);
      if (was[g] != NONE && (is == NONE || is > was[g])) later++;
    }
    x.brake(1, 0, 0);
    return later;
  }

  private static void refusals() {
    ThreeRings x = Check.made(TURNING);
    int[][] unknown = {{3, 1, 0, 0, 1}, {-1, 0, 0, 0, 1}, {0, 0, 2, 0, 1}, {0, 1, 0, 300, 1}, {0, 1, 0, -1, 1}, {0, 100, 0, 0, 2}};
    for (int[] a : unknown) {
      Check.due("bestBrake unknown", x.bestBrake(a[0], a[1], a[2], a[3], a[4]), UNKNOWN);
      Check.due("harm unknown", x.harm(a[0], a[1], a[2], a[3], a[4]), UNKNOWN);
    }
    for (int d : new int[] {0, 100, -1}) {
      Check.due("bestBrake d " + d, x.bestBrake(0, d, 0, 0, 1), BAD);
      Check.due("harm d " + d, x.harm(0, d, 0, 0, 1), BAD);
    }
    Check.due("bestBrake d 99", x.bestBrake(0, 99, 0, 0, 1), 5);
  }

  private static void worst() {
    ThreeRings x = Check.made(TURNING);
    Check.due("just missed", x.worst(0, 1), 12);
    Check.due("itself", x.worst(1, 1), 0);
    x.brake(0, 6, 20);
    Check.due("just missed, and braked", x.worst(0, 1), 32);
    x.brake(0, 40, 20);
    Check.due("a brake behind the first turn", x.worst(0, 1), 12);
    Check.due("no gate", x.worst(2, 0), UNKNOWN);
    Check.due("no other", x.worst(0, -1), UNKNOWN);
    Check.due("never", Check.made("U2R01G00002G11050").worst(1, 0), NONE);
    Check.due("inwards", Check.made("U2R01G00002G11050").worst(0, 1), 12);
    // once by a brake, never again
    ThreeRings once = Check.made("U2R01R11G00000G11000");
    once.brake(0, 5, 1);
    Check.due("from one it is never", once.worst(0, 1), NONE);
  }

  private static void pumps() {
    Check.due("no gates", Check.made("U2").pumps(9), NONE);
    Check.due("BAD ahead of none", Check.made("U2").pumps(100), BAD);
    ThreeRings x = Check.made(TURNING);
    Check.due("-1", x.pumps(-1), BAD);
    Check.due("100", x.pumps(100), BAD);
    Check.due("in time", x.pumps(12), 1);
    Check.due("a second too few", x.pumps(11), 3);
    Check.due("each its own", x.pumps(0), 3);
    x.brake(0, 0, 20);
    Check.due("from second 0, braked", x.pumps(26), 1);
    Check.due("from second 0, braked, a second too few", x.pumps(25), 3);
    ThreeRings behind = Check.made("U2R01G00000G11110");
    behind.brake(0, 12, 50);
    Check.due("a brake behind the first turn", behind.pumps(12), 1);
    Check.due("one gate", Check.made("U2G00000").pumps(0), 1);
    Check.due("only inwards", Check.made("U2R01G11050G00002").pumps(99), 2);
    ThreeRings turns = Check.made("U2R01G00000G00060G11000");
    Check.due("one for some seconds, another for others", turns.pumps(6), 3);
    Check.due("all", turns.pumps(5), 7);
    Check.due("the least of the two on a ring", Check.made("U2G00000G11050G10030G21100").pumps(99), 0b1011);
  }
}
