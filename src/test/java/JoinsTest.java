/** Promises 12 to 17: where gates are, which are opposite, when, how long, how much of the time. */
public final class JoinsTest {
  private static final int UNKNOWN = ThreeRings.UNKNOWN, BAD = ThreeRings.BAD, NONE = ThreeRings.NONE;

  public static void main(String[] args) {
    where();
    open();
    kinds();
    farAround();
    allPairs();
    next();
    stays();
    share();
    meet();
    Check.end("JoinsTest");
  }

  private static void where() {
    ThreeRings x = Check.made("U2R05r17G00110G10003G10114");
    Check.due("at first", x.where(0, 0), 11);
    Check.due("to the right", x.where(0, 1), 4);
    Check.due("to the left, and KIND 3", x.where(1, 1), 6);
    Check.due("KIND 3 in even seconds", x.where(1, 2), 10);
    Check.due("KIND 4", x.where(2, 1), 4);
    Check.due("last second", x.where(0, 299), (11 + 5 * 299) % 12);
    Check.due("no second", x.where(0, 300), UNKNOWN);
    Check.due("no second", x.where(0, -1), UNKNOWN);
    Check.due("no gate", x.where(3, 0), UNKNOWN);
    Check.due("no gate", x.where(-1, 0), UNKNOWN);
    x.brake(0, 10, 5);
    x.brake(1, 0, 99);
    Check.due("ahead of the brake", x.where(0, 10), (11 + 50) % 12);
    Check.due("in the brake", x.where(0, 13), (11 + 50) % 12);
    Check.due("behind the brake", x.where(0, 16), (11 + 55) % 12);
    Check.due("KIND 3 goes on while braked", x.where(1, 7), 1);
  }

  private static void open() {
    // 0: ring 0 inner; 1: ring 1 outer; 2: ring 1 inner; 3: ring 2 outer; all at place 5
    ThreeRings x = Check.made("U2G00050G11050G10050G21050");
    int[][] want = {{0, 1, 0, 0}, {1, 0, 0, 0}, {0, 0, 0, 1}, {0, 0, 1, 0}};
    for (int g = 0; g < 4; g++) {
      for (int h = 0; h < 4; h++) Check.due("open " + g + " " + h, x.open(g, h, 7), want[g][h]);
    }
    Check.due("no gate", x.open(4, 0, 0), UNKNOWN);
    Check.due("no other", x.open(0, -1, 0), UNKNOWN);
    Check.due("no second", x.open(0, 1, 300), UNKNOWN);
    x.turn(0, 1);
    Check.due("gone by", x.open(0, 1, 1), 0);
    Check.due("a turn later", x.open(0, 1, 12), 1);
  }

  private static void kinds() {
    for (int kind = 0; kind <= 4; kind++) {
      for (int side = 0; side < 2; side++) {
        String outer = "G0000" + (side == 0 ? kind : 0);
        String inner = "G1100" + (side == 1 ? kind : 0);
        ThreeRings x = Check.made("U2R01" + outer + inner);
        String name = "kind " + kind + " side " + side + ": ";
        Check.due(name + "inwards", x.open(0, 1, 0), 1);
        Check.due(name + "outwards", x.open(1, 0, 0), kind == 2 ? 0 : 1);
        Check.due(name + "1 further", x.open(0, 1, 1), kind == 1 || kind == 3 && side == 1 ? 1 : 0);
        Check.due(name + "1 nearer", x.open(0, 1, 11), kind == 1 || kind == 3 && side == 0 ? 1 : 0);
        Check.due(name + "2 further", x.open(0, 1, 2), 0);
        x.turn(0, 0);
        Check.due(name + "standing, second 2", x.open(0, 1, 2), kind == 4 ? 0 : 1);
        Check.due(name + "standing, second 3", x.open(0, 1, 3), kind == 3 ? 0 : 1);
      }
    }
  }

  /** The most pairs that eight gates can make. */
  private static void allPairs() {
    ThreeRings x = Check.made("U2" + "G00070".repeat(4) + "G11070".repeat(4));
    for (int g = 0; g < 8; g++) {
      for (int h = 0; h < 8; h++) {
        int want = g < 4 == h < 4 ? 0 : 1;
        Check.due("pair " + g + " " + h, x.open(g, h, 1), want);
        Check.due("pair " + g + " " + h + " next", x.next(g, h, 1), want == 1 ? 1 : NONE);
      }
    }
  }

  /** The outer gate is as far ahead as it can be, and both KINDS add to that. */
  private static void farAround() {
    Check.due("KIND 3 outside, KIND 1 inside", Check.made("U2r01G00113G11001").open(0, 1, 1), 1);
    Check.due("KIND 1 outside, KIND 3 inside", Check.made("U2R01G00001G11103").open(0, 1, 11), 1);
    Check.due("KIND 1 outside, KIND 3 inside, left", Check.made("U2r01G00001G11113").open(0, 1, 1), 1);
    Check.due("the inner one turns", Check.made("U2r11G00003G11111").open(0, 1, 11), 1);
  }

  private static void next() {
    ThreeRings x = Check.made("U9R01G00000G11010G00004G11500");
    Check.due("now", x.next(0, 1, 1), 1);
    Check.due("one turn on", x.next(0, 1, 2), 55);
    Check.due("later than 299", x.next(0, 1, 299), 325);
    Check.due("outwards as well", x.next(1, 0, 299), 325);
    Check.due("KIND 4 never at a second of three", x.next(2, 3, 0), NONE);
    Check.due("not beside one another", x.next(0, 2, 0), NONE);
    Check.due("itself", x.next(0, 0, 0), NONE);
    Check.due("no gate", x.next(0, 4, 0), UNKNOWN);
    Check.due("no second", x.next(0, 1, -1), UNKNOWN);
    x.brake(0, 40, 97);
    Check.due("KIND 4 at a second of three by a brake", x.next(2, 3, 0), 147);
    x.brake(0, 99, 99);
    Check.due("past the last brake", x.next(0, 1, 56), 208);
    x.turn(0, 0);
    Check.due("never", x.next(0, 1, 0), NONE);
  }

  private static void stays() {
    ThreeRings x = Check.made("U2R01G00001G11010G00000G11003");
    Check.due("from its first second", x.stays(0, 1, 0), 3);
    Check.due("from its last second", x.stays(0, 1, 2), 1);
    Check.due("not open", x.stays(0, 1, 3), 0);
    Check.due("KIND 3", x.stays(2, 3, 0), 2);
    x.brake(0, 2, 90);
    Check.due("held by a brake", x.stays(0, 1, 0), 93);
    Check.due("a turn later", x.stays(0, 1, 101), 0);
    Check.due("a turn later", x.stays(0, 1, 102), 3);
    x.turn(0, 0);
    Check.due("for ever", x.stays(0, 1, 299), 999);
    Check.due("not beside one another", x.stays(0, 2, 0), 0);
    Check.due("KIND 3 against a standing one", x.stays(2, 3, 0), 1);
    Check.due("no gate", x.stays(4, 0, 0), UNKNOWN);
    Check.due("no second", x.stays(0, 1, 300), UNKNOWN);
    x.turn(0, 4);
    x.brake(0, 99, 99);
    Check.due("until the last brake ends", x.stays(0, 3, 99), 100);
    Check.due("1 apart by no gate of KIND 1", x.stays(2, 1, 99), 0);
    Check.due("KIND 3 while braked", x.stays(2, 3, 102), 1);
  }

  private static void share() {
    ThreeRings x = Check.made("U2R01G00001G11010G00062G11060G00004G11003");
    fraction(x, 0, 1, 1, 4);
    fraction(x, 1, 0, 1, 4);
    fraction(x, 2, 3, 1, 12);
    fraction(x, 3, 2, 0, 1);
    fraction(x, 0, 2, 0, 1);
    fraction(x, 4, 3, 1, 12);
    x.turn(0, 0);
    fraction(x, 0, 1, 1, 1);
    fraction(x, 4, 5, 1, 6);
    x.turn(0, 1);
    x.brake(0, 0, 99);
    fraction(x, 0, 1, 1, 4);
    Check.due("no gate", x.share(0, 6, true), UNKNOWN);
    Check.due("no gate", x.share(-1, 0, false), UNKNOWN);
    Check.due("brakes are still there", x.brake(0, 0, 0), 99);
  }

  private static void fraction(ThreeRings x, int g, int h, int upper, int lower) {
    Check.due("share " + g + " " + h + " upper", x.share(g, h, true), upper);
    Check.due("share " + g + " " + h + " lower", x.share(g, h, false), lower);
  }

  private static void meet() {
    // KINDS 1, 2, 4 set aside; KIND 3 not
    ThreeRings x = Check.made("U9R01R12G00001G00104G10202G21303G21300");
    Check.due("two of unlike rings", x.meet(0b00101, 0), (54 - 20) % 54);
    Check.due("two of one ring", x.meet(0b00011, 0), NONE);
    Check.due("KIND 3 in an even second", x.meet(0b01001, 0), 30);
    Check.due("ring 0 and a standing one", x.meet(0b10001, 0), 30);
    Check.due("ring 0 and one of KIND 3", x.meet(0b01010, 20), 20);
    Check.due("KIND 3 in an odd second", x.meet(0b01010, 21), 21);
    Check.due("KIND 3 a turn later", x.meet(0b01010, 22), 74);
    x.turn(0, 2);
    Check.due("KIND 3 only in even seconds", x.meet(0b01001, 16), 42);
    x.turn(0, 1);
    Check.due("later than 299", x.meet(0b10001, 299), 300);
    Check.due("one", x.meet(1, 0), BAD);
    Check.due("none", x.meet(0, 0), BAD);
    Check.due("no such gate", x.meet(0b100001, 0), BAD);
    Check.due("below 0", x.meet(-1, 0), BAD);
    Check.due("the second is told first", x.meet(-1, 300), UNKNOWN);
    Check.due("no second", x.meet(3, -1), UNKNOWN);
    x.brake(0, 25, 99);
    Check.due("a brake ahead of it", x.meet(0b10001, 0), 129);
  }
}
