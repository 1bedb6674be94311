/** Promises 1 to 11: the text, its fault, the city, paces, brakes, dry seasons. */
public final class CityTest {
  public static void main(String[] args) {
    newObject();
    write();
    wipe();
    fault();
    city();
    aboutAndGate();
    paceAndTurn();
    brake();
    dry();
    Check.end("CityTest");
  }

  private static void newObject() {
    ThreeRings x = new ThreeRings();
    Check.due("new: U", x.about(0), 12);
    Check.due("new: gates", x.about(1), 0);
    Check.due("new: seen", x.about(2), 0);
    Check.due("new: bytes", x.about(3), 0);
    for (int r = 0; r < 3; r++) Check.due("new: pace " + r, x.pace(r), 10);
    Check.due("new: gate", x.gate(0, 0), ThreeRings.UNKNOWN);
    Check.due("new: keep", x.keep(0), 0);
    Check.due("new: pumps", x.pumps(99), ThreeRings.NONE);
  }

  private static void write() {
    ThreeRings x = new ThreeRings();
    Check.due("write 0", x.write(0, 0), ThreeRings.BAD);
    Check.due("write 9", x.write(9, 0), ThreeRings.BAD);
    Check.due("write -1", x.write(-1, 0), ThreeRings.BAD);
    // the lowest bytes count, the highest of these come first
    Check.due("write U2", x.write(2, 0x4747474747475532L), 2);
    Check.due("fault of U2", x.fault(), ThreeRings.NONE);
    Check.due("write 8", x.write(8, -1L), 10);
    Check.due("fault at the first byte behind U2", x.fault(), 2);
    for (int n = 18; n <= 58; n += 8) Check.due("write to " + n, x.write(8, 0), n);
    Check.due("write past 60", x.write(3, 0), ThreeRings.FULL);
    Check.due("write 8 past 60", x.write(8, 0), ThreeRings.FULL);
    Check.due("nothing came", x.about(3), 58);
    Check.due("write to 60", x.write(2, 0), 60);
    Check.due("write past 60 by 1", x.write(1, 0), ThreeRings.FULL);
    Check.due("BAD ahead of FULL", x.write(9, 0), ThreeRings.BAD);
  }

  private static void wipe() {
    ThreeRings x = new ThreeRings();
    Check.due("wipe of nothing", x.wipe(), 0);
    Check.tell(x, "U3G00000");
    x.city();
    Check.due("wipe", x.wipe(), 8);
    Check.due("wiped", x.about(3), 0);
    Check.due("the city stays", x.about(1), 1);
    Check.due("fault of nothing", x.fault(), 0);
  }

  private static void fault() {
    String[] sound = {"U2", "U9", "U2R00", "U2r29R18R00", "U2G00110", "U9G00534G10000", "U2G21000R05G11004r13"};
    for (String text : sound) Check.due("fault of " + text, Check.faultOf(text), ThreeRings.NONE);
    // only not at their ends
    String[] begun = {"", "U", "U2R", "U2r0", "U2G", "U2G0", "U2G00", "U2G001", "U2G0011", "U2R00R1"};
    for (String text : begun) Check.due("fault of " + text, Check.faultOf(text), text.length());
    // the last byte is the first by which it can be no city
    String[] broken = {
      "u", "R", "U1", "U0", "U2U", "U2 ", "U2R3", "U2R0x", "U2R01r0", "U2R01R0", "U2G3", "U2G01", "U2G20", "U2G12",
      "U2G002", "U2G0012", "U2G00115", "U3G002", "U3G0018", "U4G003", "U4G0024", "U5G003", "U9G006", "U9G0054",
      "U2R00R10R20R", "U2R00R10R20r", "U2g", "U2R0\u00b0"
    };
    for (String text : broken) {
      Check.due("fault of " + text, Check.faultOf(text), text.length() - 1);
      Check.due("fault of " + text + "0", Check.faultOf(text + "0"), text.length() - 1);
    }
    String eight = "U2" + "G00000".repeat(8);
    Check.due("eight gates", Check.faultOf(eight), ThreeRings.NONE);
    Check.due("a ninth gate", Check.faultOf(eight + "G"), 50);
    Check.due("a pace behind eight gates", Check.faultOf(eight + "R01r12R2"), 58);
    Check.due("60 bytes, one more would be due", Check.faultOf("U2" + "R01R12R23" + "G00000".repeat(8) + "G"), 59);
    Check.due("length set aside", Check.faultOf("U2R01R12" + "G00000".repeat(8) + "R2"), 58);
  }

  private static void city() {
    ThreeRings x = new ThreeRings();
    Check.due("city of nothing", x.city(), ThreeRings.LATE);
    Check.tell(x, "U4R02r11G00050G11103");
    Check.due("city", x.city(), 2);
    Check.due("the text stays", x.about(3), 20);
    x.brake(1, 3, 4);
    x.see(0, 1, 5);
    x.turn(0, 9);
    x.turn(2, 9);
    x.keep(0);
    x.write(1, 'G');
    Check.due("city of a fault", x.city(), ThreeRings.LATE);
    Check.due("refused: paces stay", x.pace(2), 19);
    Check.due("refused: seen stays", x.about(2), 1);
    Check.due("refused: kept stays", x.again(0), 1);
    Check.tell(x, "11001");
    Check.due("city again", x.city(), 3);
    Check.due("paces as told", x.pace(0), 12);
    Check.due("a ring that is not told stands", x.pace(2), 10);
    Check.due("nothing is seen", x.about(2), 0);
    Check.due("no brakes", x.brake(1, 0, 0), 0);
    Check.due("nothing is kept", x.again(0), ThreeRings.LATE);
    x.wipe();
    Check.tell(x, "U2");
    Check.due("city without gates", x.city(), 0);
    Check.due("U", x.about(0), 12);
    Check.due("gone gates", x.gate(0, 0), ThreeRings.UNKNOWN);
  }

  private static void aboutAndGate() {
    ThreeRings x = Check.made("U7R01G00410G21352G10004");
    int[] about = {42, 3, 0, 23};
    for (int w = 0; w < 4; w++) Check.due("about " + w, x.about(w), about[w]);
    Check.due("about 4", x.about(4), ThreeRings.BAD);
    Check.due("about -1", x.about(-1), ThreeRings.BAD);
    x.see(0, 1, 0);
    Check.due("about seen", x.about(2), 1);
    int[][] gates = {{0, 0, 41, 0}, {2, 1, 35, 2}, {1, 0, 0, 4}};
    for (int g = 0; g < 3; g++) {
      for (int w = 0; w < 4; w++) Check.due("gate " + g + " " + w, x.gate(g, w), gates[g][w]);
    }
    Check.due("gate 3", x.gate(3, 0), ThreeRings.UNKNOWN);
    Check.due("gate -1", x.gate(-1, 9), ThreeRings.UNKNOWN);
    Check.due("gate 0 4", x.gate(0, 4), ThreeRings.BAD);
    Check.due("gate 0 -1", x.gate(0, -1), ThreeRings.BAD);
  }

  private static void paceAndTurn() {
    ThreeRings x = Check.made("U2R09r19r20");
    Check.due("pace 0", x.pace(0), 19);
    Check.due("pace 1", x.pace(1), 1);
    Check.due("pace 2", x.pace(2), 10);
    Check.due("pace 3", x.pace(3), ThreeRings.UNKNOWN);
    Check.due("pace -1", x.pace(-1), ThreeRings.UNKNOWN);
    Check.due("turn", x.turn(0, -9), 19);
    Check.due("turned", x.turn(0, 9), 1);
    Check.due("turn 10", x.turn(0, 10), ThreeRings.BAD);
    Check.due("turn -10", x.turn(0, -10), ThreeRings.BAD);
    Check.due("turn of no ring", x.turn(3, 10), ThreeRings.UNKNOWN);
    Check.due("refused: as it was", x.pace(0), 19);
  }

  private static void brake() {
    ThreeRings x = Check.made("U2R01G00000");
    Check.due("first brake", x.brake(0, 99, 99), 0);
    Check.due("second brake", x.brake(0, 2, 3), 99);
    Check.due("s 100", x.brake(0, 100, 1), ThreeRings.BAD);
    Check.due("s -1", x.brake(0, -1, 1), ThreeRings.BAD);
    Check.due("d 100", x.brake(0, 0, 100), ThreeRings.BAD);
    Check.due("d -1", x.brake(0, 0, -1), ThreeRings.BAD);
    Check.due("no ring", x.brake(-1, -1, -1), ThreeRings.UNKNOWN);
    Check.due("ring 3", x.brake(3, 0, 0), ThreeRings.UNKNOWN);
    int[] places = {0, 1, 2, 2, 2, 2, 3, 4};
    for (int t = 0; t < 8; t++) Check.due("braked at " + t, x.where(0, t), places[t]);
    Check.due("off", x.brake(0, 0, 0), 3);
    Check.due("not braked", x.where(0, 7), 7);
  }

  private static void dry() {
    ThreeRings x = Check.made("U2R03r11");
    Check.due("dry 0", x.dry(0), 1);
    Check.due("dry 1", x.dry(1), 2);
    Check.due("nearer to 0 from the right", x.pace(0), 12);
    Check.due("nearer to 0 from the left", x.pace(1), 10);
    Check.due("dry -1", x.dry(-1), ThreeRings.BAD);
    Check.due("dry 10", x.dry(10), ThreeRings.BAD);
    x.turn(1, -5);
    x.brake(2, 0, 50);
    Check.due("dry 4", x.dry(4), 2);
    Check.due("0 at most", x.pace(0), 10);
    Check.due("not past 0", x.pace(1), 9);
    Check.due("dry 9", x.dry(9), 3);
  }
}
