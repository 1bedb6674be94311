/** Promises 26 to 31: what is seen, the paces that fit it, slots. */
public final class SeenTest {
  private static final int UNKNOWN = ThreeRings.UNKNOWN, BAD = ThreeRings.BAD, NONE = ThreeRings.NONE;

  public static void main(String[] args) {
    see();
    unsee();
    rows();
    likely();
    slots();
    Check.end("SeenTest");
  }

  private static void see() {
    ThreeRings x = Check.made("U2G00000G11000G10030G21000");
    Check.due("no gate", x.see(0, 4, 0), UNKNOWN);
    Check.due("no gate", x.see(-1, 0, 0), UNKNOWN);
    Check.due("no second", x.see(0, 1, 300), UNKNOWN);
    Check.due("no second ahead of one ring", x.see(0, 0, -1), UNKNOWN);
    Check.due("one ring", x.see(1, 2, 0), BAD);
    Check.due("itself", x.see(3, 3, 0), BAD);
    Check.due("refused: nothing seen", x.about(2), 0);
    Check.due("rings that are not beside one another", x.see(0, 3, 0), 1);
    for (int n = 2; n <= 8; n++) Check.due("seen " + n, x.see(0, 1, 299), n);
    Check.due("ninth", x.see(0, 1, 0), ThreeRings.FULL);
    Check.due("BAD ahead of FULL", x.see(1, 2, 0), BAD);
    Check.due("UNKNOWN ahead of FULL", x.see(1, 0, 300), UNKNOWN);
    Check.due("eight", x.about(2), 8);
  }

  private static void unsee() {
    ThreeRings x = Check.made("U2G00000G11000");
    Check.due("nothing", x.unsee(), 0);
    x.see(0, 1, 1);
    x.see(1, 0, 2);
    Check.due("two", x.unsee(), 2);
    Check.due("gone", x.about(2), 0);
    Check.due("all fit", x.rows(), 6859);
    Check.due("from the first again", x.see(0, 1, 1), 1);
  }

  private static void rows() {
    ThreeRings x = Check.made("U2R05G00000G11060G21003");
    Check.due("nothing seen", x.rows(), 6859);
    x.see(0, 1, 3);
    // 3 times the difference is 6, round by 12: differences 2, 6, 10, 14, 18 to either side
    Check.due("one seen", x.rows(), 19 * 2 * (17 + 13 + 9 + 5 + 1));
    x.unsee();
    x.see(1, 0, 3);
    Check.due("the other way about", x.rows(), 1710);
    x.brake(0, 0, 99);
    Check.due("no brakes", x.rows(), 1710);
    x.turn(0, 3);
    Check.due("whatever the pace is", x.rows(), 1710);
    x.unsee();
    x.see(0, 2, 1);
    // KIND 3 set aside: differences 0 and 12 to either side
    Check.due("KINDS set aside", x.rows(), 19 * (19 + 2 * 7));
    x.see(2, 1, 0);
    Check.due("not so at second 0", x.rows(), 0);
  }

  private static void likely() {
    ThreeRings x = Check.made("U9G00000G11180G21000");
    Check.due("no ring", x.likely(3, true), UNKNOWN);
    Check.due("no ring", x.likely(-1, false), UNKNOWN);
    Check.due("least", x.likely(1, false), 1);
    Check.due("greatest", x.likely(1, true), 19);
    x.see(0, 1, 1);
    Check.due("rows", x.rows(), 19);
    int[][] want = {{19, 19}, {1, 1}, {1, 19}};
    for (int r = 0; r < 3; r++) {
      Check.due("least of " + r, x.likely(r, false), want[r][0]);
      Check.due("greatest of " + r, x.likely(r, true), want[r][1]);
    }
    x.see(0, 2, 2);
    // twice the difference is 0, round by 54: the same pace alone
    Check.due("least of 2", x.likely(2, false), 19);
    x.see(0, 1, 0);
    Check.due("no row", x.likely(0, true), NONE);
    Check.due("no row", x.likely(2, false), NONE);
    Check.due("no ring ahead of no row", x.likely(3, false), UNKNOWN);
  }

  private static void slots() {
    ThreeRings x = Check.made("U2R01G00000G11050");
    for (int slot : new int[] {-1, 2}) {
      Check.due("keep " + slot, x.keep(slot), UNKNOWN);
      Check.due("again " + slot, x.again(slot), UNKNOWN);
    }
    Check.due("none kept", x.again(1), ThreeRings.LATE);
    x.brake(0, 5, 6);
    x.brake(2, 7, 1);
    x.brake(1, 7, 0);
    x.see(0, 1, 5);
    Check.due("two are braked", x.keep(1), 2);
    Check.due("the other slot", x.again(0), ThreeRings.LATE);
    x.turn(0, -3);
    x.brake(0, 0, 0);
    x.brake(2, 0, 0);
    x.unsee();
    x.see(1, 0, 9);
    x.see(1, 0, 8);
    Check.due("none is braked", x.keep(0), 0);
    Check.due("again 1", x.again(1), 2);
    state(x, 11, 6, 5, 1);
    Check.due("seen as it was", x.rows(), 19 * (18 + 8 + 6));
    x.turn(0, 9);
    x.see(0, 1, 5);
    Check.due("once more", x.again(1), 2);
    state(x, 11, 6, 5, 1);
    Check.due("again 0", x.again(0), 0);
    state(x, 7, 0, 0, 2);
    Check.tell(x, "R10");
    x.city();
    Check.due("gone with the city", x.again(0), ThreeRings.LATE);
    Check.due("gone with the city", x.again(1), ThreeRings.LATE);
  }

  private static void state(ThreeRings x, int pace, int brake, int stands, int seen) {
    Check.due("pace", x.pace(0), pace);
    Check.due("seen", x.about(2), seen);
    Check.due("place at 10", x.where(0, 10), brake > 0 ? stands : Math.floorMod((pace - 10) * 10, 12));
  }
}
