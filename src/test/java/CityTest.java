/** Promises 1 to 11 and the Terms that they rest on: the text, its fault, the city, paces, brakes, dry seasons. */
public final class CityTest {
  private static final int UNKNOWN = Check.UNKNOWN, BAD = Check.BAD, LATE = Check.LATE, FULL = Check.FULL;
  private static final int NONE = Check.NONE;
  private static final int MIN = Integer.MIN_VALUE, MAX = Integer.MAX_VALUE;
  /** No city is longer: 59 bytes. */
  private static final String LONGEST = "U9R01r12R29" + "G00530G10001G11012G21023G00034G11040G10050G21060";

  public static void main(String[] args) {
    Sentences.run(CityTest.class);
  }

  /** Of all bytes behind a start of a city just these can stand there. */
  private static void only(String start, String signs) {
    for (int b = 0; b < 256; b++) {
      boolean stops = Check.faultOf(start + (char) b) == start.length();
      Check.due("byte " + b + " behind '" + start + "' is a fault", stops ? 1 : 0, signs.indexOf(b) < 0 ? 1 : 0);
    }
  }

  private static void write(ThreeRings x, String text, int atOnce) {
    byte[] bytes = text.getBytes(java.nio.charset.StandardCharsets.ISO_8859_1);
    for (int i = 0; i < bytes.length; i += atOnce) {
      int n = Math.min(atOnce, bytes.length - i);
      long above = n == 8 ? 0 : 0x5A5A5A5A5A5A5A5AL << 8 * n;
      Check.due("write of " + n, x.write(n, above | Check.packed(bytes, i, n)), i + n);
    }
  }

  private static ThreeRings filled(int bytes) {
    ThreeRings x = new ThreeRings();
    for (int n = 0; n < bytes; n++) x.write(1, 'U');
    return x;
  }

  // ---- What it is

  @Sentence(in = "What it is", says = "An object is used for at most 512 calls after it has been made;")
  @Broken(code = "laying++;", as = "laying = laying % 100 + 1;")
  static void theLastOf512Calls() {
    // no brake brings one out of gate 1 again, so that each second of a turn is tried
    String text = "U9R01r12R25G00002G11282G10290G21002";
    for (int n = 0; n < 6; n++) {
      // six calls: five for the text, one for the city
      ThreeRings x = Check.made(text);
      int calls = 6;
      int pace = 1;
      for (; calls + 1 < 512; calls++) {
        // the dearest call, and now and then one that leaves nothing as it was
        if (calls % 8 == 7) x.turn(0, pace = calls % 19 - 9);
        else x.bestBrake(calls % 3, 1 + calls % 9, 1, (calls + n) % 54, 0);
      }
      Check.due("calls so far", calls, 511);
      ThreeRings y = Check.made(text);
      y.turn(0, pace);
      Check.due("the 512th", x.soonest(0, 294 + n, 3), y.soonest(0, 294 + n, 3));
    }
  }

  @Sentence(in = "What it is", says = "1 RINGS are 0 (outmost) ..")
  @Broken(code = "RINGS = 3", as = "RINGS = 4")
  @Broken(in = "int joinOf(", code = "plan.ring[to] < plan.ring[from]", as = "plan.ring[to] > plan.ring[from]")
  static void ringsAreThree() {
    ThreeRings x = Check.made("U2G00002G11000G10002G21000");
    for (int r = 0; r < 3; r++) Check.due("ring " + r, x.pace(r), 10);
    Check.due("no ring 3", x.pace(3), UNKNOWN);
    Check.due("no ring -1", x.pace(-1), UNKNOWN);
    Check.due("ring 1 is within ring 0", x.open(0, 1, 0), 1);
    Check.due("ring 0 is without ring 1", x.open(1, 0, 0), 0);
    Check.due("ring 2 is within ring 1", x.open(2, 3, 0), 1);
    Check.due("ring 1 is without ring 2", x.open(3, 2, 0), 0);
  }

  // ---- Terms: the text

  @Sentence(in = "Terms", says = "A turn has U parts.")
  @Broken(in = "int wrap(", code = "floorMod(n, parts)", as = "floorMod(n, parts + 1)")
  @Broken(in = "int wrap(", code = "Math.floorMod(n, parts)", as = "n")
  static void aTurnHasUParts() {
    for (int u = 2; u <= 9; u++) {
      int parts = 6 * u;
      ThreeRings x = Check.made("U" + u + "R01r11G00" + Check.twoFigures(parts - 1) + "0G10000");
      Check.due("from the last part to the right", x.where(0, 1), 0);
      Check.due("from the first part to the left", x.where(1, 1), parts - 1);
      Check.due("short of a turn", x.where(1, parts - 1), 1);
      Check.due("a turn", x.where(0, parts), parts - 1);
    }
  }

  @Sentence(in = "Terms", says = "GATES 0, 1, .. (8 at most).")
  @Broken(code = "MOST_GATES = 8", as = "MOST_GATES = 7")
  @Broken(code = "MOST_GATES = 8", as = "MOST_GATES = 9")
  @Broken(in = "boolean addsGate(", code = "int gate = draft.gates;", as = "int gate = 7 - draft.gates;")
  static void eightGatesAtMost() {
    StringBuilder text = new StringBuilder("U2");
    for (int n = 0; n <= 8; n++) {
      ThreeRings x = Check.made(text.toString());
      Check.due("so many", x.about(1), n);
      for (int g = 0; g < 8; g++) Check.due("gate " + g + " of " + n, x.gate(g, 2), g < n ? g + 1 : UNKNOWN);
      text.append("G000").append(n + 1).append('0');
    }
    Check.due("a ninth", Check.faultOf(text.toString()), 50);
  }

  @Sentence(in = "Terms", says = "THE TEXT is bytes (60 at most).")
  @Broken(code = "MOST_BYTES = 60", as = "MOST_BYTES = 59")
  @Broken(code = "MOST_BYTES = 60", as = "MOST_BYTES = 61")
  @Broken(in = "public int write(", code = "& 255", as = "& 127")
  static void sixtyBytesAtMost() {
    ThreeRings x = filled(59);
    Check.due("the 60th", x.write(1, 0), 60);
    Check.due("a 61st", x.write(1, 0), FULL);
    Check.due("60 are there", x.about(3), 60);
    Check.due("a byte of 8 bits", Check.faultOf("\u00d52"), 0);
    Check.due("a byte of 8 bits behind another", Check.faultOf("U\u00b2"), 1);
    Check.due("byte 0", Check.faultOf("U2\0"), 2);
  }

  @Sentence(in = "Terms", says = "A CITY is a TEXT of PARTS, one behind the other:")
  @Broken(in = "boolean takes(", code = "if (letter == 0) {", as = "if (sign == ' ') return true;\n if (letter == 0) {")
  @Broken(in = "boolean takesLetter(", code = "sign == 'R' || sign == 'r'", as = "(sign == 'R' || sign == 'r') && draft.gates == 0")
  @Broken(in = "boolean takesLetter(", code = "sign == 'G' &&", as = "(sign == 'G' || sign == 'g') &&")
  static void partsOneBehindTheOther() {
    Check.due("in any order", Check.faultOf("U2G21000R05G11004r13G00001"), NONE);
    Check.due("no part but the first", Check.faultOf("U5"), NONE);
    only("U2", "RrG");
    only("U2R05", "RrG");
    only("U2G21000", "RrG");
    for (String between : new String[] {" ", ",", "\n", "0"}) {
      Check.due("nothing between", Check.faultOf("U2G21000" + between + "R05"), 8);
      Check.due("nothing within", Check.faultOf("U2R" + between + "G21000"), between.equals("0") ? 4 : 3);
      Check.due("nothing at the end", Check.faultOf("U2R05" + between), 5);
      Check.due("nothing ahead", Check.faultOf(between + "U2R05"), 0);
    }
  }

  @Sentence(in = "Terms", says = "Uu U is 6 u (u 2 .. 9); the first PART")
  @Broken(code = "draft.parts = 6 * figure;", as = "draft.parts = 6 * Math.min(8, figure);")
  @Broken(code = "return figure >= 2;", as = "return figure >= 1;")
  @Broken(code = "return figure >= 2;", as = "return figure >= 3;")
  @Broken(code = "return figure >= 2;", as = "return figure >= 2 && figure < 9;")
  @Broken(code = "figure < 0 || figure > 9", as = "figure < 0 || figure > 10")
  @Broken(code = "return sign == 'U';", as = "return sign == 'U' || sign == 'R';")
  @Broken(in = "boolean takesLetter(", code = "return sign == 'G' &&", as = "return sign == 'U' || sign == 'G' &&")
  static void partsOfATurn() {
    only("", "U");
    only("U", "23456789");
    for (int u = 2; u <= 9; u++) Check.due("U of " + u, Check.made("U" + u).about(0), 6 * u);
    Check.due("a second U", Check.faultOf("U2U3"), 2);
    Check.due("U behind another part", Check.faultOf("R01U2"), 0);
  }

  @Sentence(in = "Terms", says = "Rrp RING r turns by p parts a second (0 .. 9),")
  @Broken(code = "return isRing(figure) && (ringsTold", as = "return figure < 2 && (ringsTold")
  @Broken(code = "return isRing(figure) && (ringsTold", as = "return figure < 4 && (ringsTold")
  @Broken(code = "draft.firstPace[ring] = letter", as = "draft.firstPace[0] = letter")
  @Broken(code = "letter == 'r' ? -figure : figure", as = "letter == 'r' ? -figure : Math.min(8, figure)")
  @Broken(in = "boolean takes(", code = "figure > 9", as = "figure > 8")
  @Broken(in = "boolean takes(", code = "figure > 9", as = "figure > 10")
  static void ringsTurnByParts() {
    only("U2R", "012");
    only("U2r", "012");
    only("U2R0", "0123456789");
    for (int r = 0; r < 3; r++) {
      for (int p = 0; p <= 9; p++) {
        ThreeRings x = Check.made("U2R" + r + p);
        for (int other = 0; other < 3; other++) {
          Check.due("ring " + other + " by R" + r + p, x.pace(other), other == r ? 10 + p : 10);
        }
      }
    }
  }

  @Sentence(in = "Terms", says = "to the left if the letter is r instead of R")
  @Broken(code = "letter == 'r' ? -figure", as = "letter == 'r' ? figure")
  @Broken(code = "letter == 'r' ? -figure", as = "letter == 'r' ? Math.max(-8, -figure)")
  @Broken(in = "boolean takesLetter(", code = "sign == 'R' || sign == 'r'", as = "sign == 'R'")
  static void ringsTurnToTheLeft() {
    only("U2r0", "0123456789");
    for (int r = 0; r < 3; r++) {
      for (int p = 0; p <= 9; p++) Check.due("r" + r + p, Check.made("U2r" + r + p).pace(r), 10 - p);
    }
    Check.due("round by U", Check.made("U2r05G00030").where(0, 1), 10);
  }

  @Sentence(in = "Terms", says = "(each r at most once; else it stands)")
  @Broken(code = "&& (ringsTold >> figure & 1) == 0", as = "")
  @Broken(code = "ringsTold |= 1 << ring;", as = "ringsTold |= letter == 'R' ? 1 << ring : 0;")
  @Broken(code = "ringsTold = 0;\n            for", as = "for")
  @Broken(in = "void clear(", code = "Arrays.fill(firstPace, 0);", as = "")
  static void eachRingAtMostOnce() {
    for (String first : new String[] {"R", "r"}) {
      only("U2" + first + "01R", "12");
      only("U2" + first + "10r", "02");
      only("U2" + first + "29R", "01");
    }
    only("U2R00r10R", "2");
    Check.due("behind gates too", Check.faultOf("U2R01G00000R02"), 12);
    ThreeRings x = Check.made("U2R19");
    Check.due("not told: stands", x.pace(0), 10);
    Check.due("not told: stands", x.pace(2), 10);
    x.wipe();
    Check.tell(x, "U2r03");
    Check.due("the same ring in another city", x.city(), 0);
    Check.due("told of another city", x.pace(1), 10);
    Check.due("asked twice", x.fault(), NONE);
  }

  @Sentence(in = "Terms", says = "Grsppk a GATE of RING r, on its inner rim (s 0; r 0, 1) or outer rim (s 1; r 1, 2),")
  @Broken(code = "figure == 0 ? ring < RINGS - 1", as = "figure == 0 ? true")
  @Broken(code = "figure == 0 ? ring < RINGS - 1", as = "figure == 0 ? ring < 1")
  @Broken(code = ": figure == 1 && ring > 0;", as = ": figure == 1;")
  @Broken(code = ": figure == 1 && ring > 0;", as = ": figure == 1 && ring > 1;")
  @Broken(code = ": figure == 1 && ring > 0;", as = ": ring > 0;")
  @Broken(in = "boolean takesGate(", code = "return isRing(figure);", as = "return true;")
  @Broken(code = "draft.rim[gate] = rim;", as = "draft.rim[gate] = 1 - rim;")
  @Broken(code = "draft.ring[gate] = ring;", as = "draft.ring[gate] = 0;")
  static void gatesOnRims() {
    only("U2G", "012");
    only("U2G0", "0");
    only("U2G1", "01");
    only("U2G2", "1");
    int[][] all = {{0, 0}, {1, 0}, {1, 1}, {2, 1}};
    for (int[] rim : all) {
      ThreeRings x = Check.made("U2G" + rim[0] + rim[1] + "000");
      Check.due("ring of G" + rim[0] + rim[1], x.gate(0, 0), rim[0]);
      Check.due("rim of G" + rim[0] + rim[1], x.gate(0, 1), rim[1]);
    }
  }

  @Sentence(in = "Terms", says = "at place pp (two figures, less than U),")
  @Broken(code = "place += figure;\n                    return place < draft.parts;", as = "place += figure;\n return place <= draft.parts;")
  @Broken(code = "place += figure;\n                    return place < draft.parts;", as = "place += figure;\n return place < draft.parts - 1;")
  @Broken(code = "place += figure;", as = "place = figure;")
  @Broken(code = "place = 10 * figure;\n                    return place < draft.parts;", as = "place = 10 * figure;\n return true;")
  @Broken(code = "draft.place[gate] = place;", as = "draft.place[gate] = Math.min(place, 52);")
  static void placesLessThanU() {
    for (int u = 2; u <= 9; u++) {
      int last = 6 * u - 1;
      only("U" + u + "G00", "0123456789".substring(0, last / 10 + 1));
      only("U" + u + "G00" + last / 10, "0123456789".substring(0, last % 10 + 1));
      only("U" + u + "G000", "0123456789");
      for (int place = 0; place <= last; place++) {
        ThreeRings x = Check.made("U" + u + "G00" + Check.twoFigures(place) + "0");
        Check.due("place " + place, x.gate(0, 2), place);
      }
    }
  }

  @Sentence(in = "Terms", says = "of KIND k (0 .. 4)")
  @Broken(code = "figure <= 4 && addsGate(figure)", as = "figure <= 3 && addsGate(figure)")
  @Broken(code = "figure <= 4 && addsGate(figure)", as = "figure <= 5 && addsGate(figure)")
  @Broken(code = "draft.kind[gate] = kind;", as = "draft.kind[gate] = Math.min(3, kind);")
  static void kinds() {
    only("U2G0011", "01234");
    for (int kind = 0; kind <= 4; kind++) {
      Check.due("KIND " + kind, Check.made("U2G00000G1111" + kind).gate(1, 3), kind);
    }
  }

  // ---- Terms: FAULT

  @Sentence(in = "Terms",
      says = "FAULT: the place (from 0) of the first byte by which THE TEXT can be no CITY, whatever came behind it")
  @Broken(in = "int firstFault(", code = "return i;", as = "return i + 1;")
  @Broken(in = "int firstFault(", code = "return i;", as = "return length - 1;")
  @Broken(code = "return ringsTold != (1 << RINGS) - 1;", as = "return true;")
  @Broken(code = "return sign == 'G' && draft.gates < MOST_GATES;", as = "return sign == 'G';")
  @Broken(code = "place = 10 * figure;\n                    return place < draft.parts;", as = "place = 10 * figure;\n return true;")
  static void firstFault() {
    // the last byte is the first by which it can be no city
    String[] broken = {"u", "R", "0", "U1", "U0", "UU", "U2U", "U2 ", "U2g", "U2R3", "U2R0x", "U2R01r0", "U2R01R0",
      "U2G3", "U2G01", "U2G20", "U2G12", "U2G002", "U2G0012", "U2G00115", "U3G002", "U3G0018", "U4G003", "U4G0024",
      "U5G003", "U9G006", "U9G0054", "U2R0\u00b0",
      // whatever ring came next, it would be told twice; whatever gate came next, it would be the ninth
      "U2R00R10R20R", "U2R00R10R20r", "U2R00G00000R10G00000R20r", "U2" + "G00000".repeat(8) + "G"};
    for (String text : broken) {
      int place = text.length() - 1;
      Check.due("fault of " + text, Check.faultOf(text), place);
      for (int b = 0; b < 256; b++) Check.due("a byte behind " + text, Check.faultOf(text + (char) b), place);
      Check.due("parts behind " + text, Check.faultOf(text + "U2R0"), place);
    }
    Check.due("the first of two", Check.faultOf("U2R05xG00000x"), 5);
  }

  @Sentence(in = "Terms", says = "(its length set aside)")
  @Broken(in = "int firstFault(", code = "i < length && i < bytes.length", as = "i < length && i < bytes.length - 1")
  @Broken(in = "int firstFault(", code = "letter == 0 ? NONE : length", as = "letter == 0 && length < 59 ? NONE : length")
  static void faultSetsLengthAside() {
    Check.due("no city is longer", Check.faultOf(LONGEST), NONE);
    Check.due("at the 60th byte", Check.faultOf(LONGEST + "G"), 59);
    Check.due("at the 60th byte", Check.faultOf(LONGEST + "R"), 59);
    Check.due("at the first of 60 bytes", filled(60).fault(), 1);
    Check.due("only not at its end", Check.faultOf(LONGEST.substring(0, 58)), 58);
  }

  @Sentence(in = "Terms", says = "its length, if it is only not at its end;")
  @Broken(code = "return partsTold && letter == 0 ? NONE : length;", as = "return letter == 0 ? NONE : length;")
  @Broken(code = "return partsTold && letter == 0 ? NONE : length;", as = "return partsTold ? NONE : length;")
  @Broken(code = "letter == 0 ? NONE : length;", as = "letter == 0 ? NONE : length - 1;")
  static void faultOfWhatIsNotAtItsEnd() {
    Check.due("empty", Check.faultOf(""), 0);
    for (int n = 0; n <= LONGEST.length(); n++) {
      boolean atEnd = n >= 2 && (n <= 11 ? (n - 2) % 3 == 0 : (n - 11) % 6 == 0);
      Check.due("the first " + n, Check.faultOf(LONGEST.substring(0, n)), atEnd ? NONE : n);
    }
  }

  @Sentence(in = "Terms", says = "NONE: none.")
  @Broken(code = "letter == 0 ? NONE : length", as = "letter == 0 ? -1 : length")
  @Broken(in = "boolean takesParts(", code = "letter = 0;", as = "")
  @Broken(in = "boolean takesGate(", code = "default:\n                    letter = 0;", as = "default:")
  @Broken(in = "boolean takesPace(", code = "letter = 0;", as = "")
  static void noFault() {
    for (String text : new String[] {"U2", "U9", "U2R00", "U2r29R18R00", "U2G00110", "U9G00534G10000", LONGEST}) {
      Check.due("fault of " + text, Check.faultOf(text), -9);
    }
  }

  @Sentence(in = "Terms", says = "At first U is 12, all stand, there are no GATES.")
  @Broken(code = "FIRST_PARTS = 12", as = "FIRST_PARTS = 18")
  @Broken(code = "int parts = FIRST_PARTS;\n        int gates = 0;", as = "int parts = FIRST_PARTS;\n int gates = 1;")
  @Broken(code = "final int[] pace = new int[RINGS];", as = "final int[] pace = {1, 0, 0};")
  static void atFirst() {
    ThreeRings x = new ThreeRings();
    Check.due("U", x.about(0), 12);
    for (int r = 0; r < 3; r++) Check.due("ring " + r, x.pace(r), 10);
    Check.due("gates", x.about(1), 0);
    Check.due("gate 0", x.gate(0, 0), UNKNOWN);
  }

  @Sentence(in = "Terms", says = "SECONDS are 0 .. 299.")
  @Broken(code = "SECONDS = 300", as = "SECONDS = 299")
  @Broken(code = "SECONDS = 300", as = "SECONDS = 301")
  @Broken(code = "return t >= 0 && t < SECONDS;", as = "return t > 0 && t < SECONDS;")
  @Broken(code = "return t >= 0 && t < SECONDS;", as = "return t < SECONDS;")
  static void seconds() {
    ThreeRings x = Check.made("U2R01G00030");
    Check.due("the first", x.where(0, 0), 3);
    Check.due("the last", x.where(0, 299), (3 + 299) % 12);
    for (int t : Check.NO_SECONDS) Check.due("second " + t, x.where(0, t), UNKNOWN);
  }

  // ---- Terms: BRAKES

  @Sentence(in = "Terms",
      says = "Each RING has a BRAKE: from second s for d seconds (0 .. 99 each; d 0: none, as at first)")
  @Broken(code = "MOST_BRAKE = 99", as = "MOST_BRAKE = 98")
  @Broken(code = "MOST_BRAKE = 99", as = "MOST_BRAKE = 100")
  @Broken(code = "brakeFrom[ring] = s;", as = "brakeFrom[0] = s;")
  @Broken(code = "brakeLong[ring] = d;", as = "Arrays.fill(brakeLong, d);")
  @Broken(in = "public int brake(", code = "now.setBrake(ring, s, d);", as = "if (d > 0) now.setBrake(ring, s, d);")
  @Broken(code = "final int[] brakeLong = new int[RINGS];", as = "final int[] brakeLong = {0, 1, 0};")
  static void eachRingHasABrake() {
    ThreeRings x = Check.made("U9R01R11R21G00000G11000G21000");
    for (int r = 0; r < 3; r++) Check.due("none at first", new ThreeRings().brake(r, 0, 0), 0);
    int[][] brakes = {{0, 99}, {99, 99}, {99, 1}};
    for (int r = 0; r < 3; r++) Check.due("none yet", x.brake(r, brakes[r][0], brakes[r][1]), 0);
    for (int t = 0; t < 300; t++) {
      for (int r = 0; r < 3; r++) {
        int stood = Math.max(0, Math.min(t - brakes[r][0], brakes[r][1]));
        Check.due("ring " + r + " at " + t, x.where(r, t), (t - stood) % 54);
      }
    }
    for (int wrong : new int[] {-1, 100, MIN, MAX}) {
      Check.due("from " + wrong, x.brake(0, wrong, 1), BAD);
      Check.due("for " + wrong, x.brake(0, 1, wrong), BAD);
    }
    Check.due("d 0", x.brake(0, 50, 0), 99);
    Check.due("none", x.where(0, 53), 53);
  }

  @Sentence(in = "Terms", says = "it does not turn in them.")
  @Broken(in = "void layRing(", code = "t < from || t >= from + seconds", as = "t <= from || t >= from + seconds")
  @Broken(in = "void layRing(", code = "t < from || t >= from + seconds", as = "t < from || t > from + seconds")
  @Broken(in = "void layRing(", code = "t < from || t >= from + seconds", as = "t < from")
  static void aBrakedRingDoesNotTurn() {
    ThreeRings x = Check.made("U2R01r15G00000G11000");
    x.brake(0, 2, 3);
    x.brake(1, 0, 1);
    int[] places = {0, 1, 2, 2, 2, 2, 3, 4};
    int[] left = {0, 0, 7, 2, 9, 4, 11, 6};
    for (int t = 0; t < 8; t++) {
      Check.due("braked at " + t, x.where(0, t), places[t]);
      Check.due("braked for one second, at " + t, x.where(1, t), left[t]);
    }
    x.brake(0, 4, 2);
    int[] instead = {0, 1, 2, 3, 4, 4, 4, 5};
    for (int t = 0; t < 8; t++) Check.due("one brake a ring, at " + t, x.where(0, t), instead[t]);
  }

  @Sentence(in = "Terms", says = "DRY by k (0 .. 9): each pace is nearer to 0 by k (0 at most).")
  @Broken(in = "public int dry(", code = "k > MOST_PACE", as = "k >= MOST_PACE")
  @Broken(in = "public int dry(", code = "k > MOST_PACE", as = "k > MOST_PACE + 1")
  @Broken(in = "public int dry(", code = "k < 0", as = "k < 1")
  @Broken(in = "void slow(", code = "Math.max(0, p - k)", as = "p - k")
  @Broken(in = "void slow(", code = "Math.min(0, p + k)", as = "p + k")
  @Broken(in = "void slow(", code = "Math.min(0, p + k)", as = "Math.min(0, p - k)")
  @Broken(in = "public int dry(", code = "r < RINGS", as = "r < RINGS - 1")
  static void paceNearerToNone() {
    ThreeRings x = new ThreeRings();
    for (int k = 0; k <= 9; k++) {
      for (int p = -9; p <= 9; p++) {
        int nearer = p > 0 ? Math.max(0, p - k) : Math.min(0, p + k);
        for (int r = 0; r < 3; r++) x.turn(r, r == 1 ? -p : p);
        Check.due("rings that stand", x.dry(k), nearer == 0 ? 3 : 0);
        for (int r = 0; r < 3; r++) Check.due(p + " by " + k, x.pace(r), 10 + (r == 1 ? -nearer : nearer));
      }
    }
    for (int k : new int[] {-1, 10, MIN, MAX}) Check.due("dry by " + k, x.dry(k), BAD);
  }

  // ---- Promises 1 to 5

  @Sentence(in = "Promise 1: A new object", says = "No GATES.")
  @Broken(code = "int parts = FIRST_PARTS;\n        int gates = 0;", as = "int parts = FIRST_PARTS;\n int gates = 8;")
  static void aNewObject() {
    ThreeRings x = new ThreeRings();
    Check.due("gates", x.about(1), 0);
    Check.due("seen", x.about(2), 0);
    Check.due("bytes", x.about(3), 0);
    for (int g = 0; g < 8; g++) {
      Check.due("gate " + g, x.gate(g, 0), UNKNOWN);
      Check.due("where " + g, x.where(g, 0), UNKNOWN);
      Check.due("open " + g, x.open(g, g, 0), UNKNOWN);
      Check.due("soonest " + g, x.soonest(g, 0, g), UNKNOWN);
      Check.due("round " + g, x.round(g, 0, 0), UNKNOWN);
      Check.due("see " + g, x.see(g, 0, 0), UNKNOWN);
    }
    Check.due("meet", x.meet(0, 0), BAD);
    Check.due("pumps", x.pumps(99), NONE);
    Check.due("all paces fit", x.rows(), 6859);
    Check.due("no ring is braked", x.keep(0), 0);
    Check.due("again", x.again(0), 0);
    Check.due("nothing was kept", x.again(1), LATE);
    Check.due("another object", new ThreeRings().again(0), LATE);
  }

  @Sentence(in = "Promise 2: write", says = "n bytes (1 .. 8) of v, the lowest n, the highest of these first, come behind THE TEXT: how long it is.")
  @Broken(in = "public int write(", code = "n > 8", as = "n > 7")
  @Broken(in = "public int write(", code = "n < 1", as = "n < 2")
  @Broken(in = "public int write(", code = "v >>> (8 * i)", as = "v >>> (8 * (n - 1 - i))")
  @Broken(in = "public int write(", code = "v >>> (8 * i)", as = "v >>> (8 * (8 - n + i))")
  @Broken(in = "public int write(", code = "return textLength;", as = "return n;")
  @Broken(in = "public int write(", code = "(int) (v >>> (8 * i))", as = "((int) v >>> (8 * i))")
  static void bytesComeBehindTheText() {
    for (int n = 1; n <= 8; n++) {
      ThreeRings x = new ThreeRings();
      write(x, LONGEST, n);
      Check.due("no fault", x.fault(), NONE);
      Check.due("gates", x.city(), 8);
      for (int g = 0; g < 8; g++) Check.due("kind of " + g, x.gate(g, 3), "01234000".charAt(g) - '0');
      Check.due("pace", x.pace(2), 19);
    }
    ThreeRings x = new ThreeRings();
    Check.due("all bits of v", x.write(8, -1L), 8);
    Check.due("the lowest byte alone", new ThreeRings().write(1, 0x1122334455667755L), 1);
  }

  @Sentence(in = "Promise 2: write", says = "BAD; FULL: it would be longer than 60 (nothing comes).")
  @Broken(in = "public int write(", code = "n < 1", as = "n < 0")
  @Broken(in = "public int write(", code = "n > 8", as = "n > 9")
  @Broken(in = "public int write(", code = "textLength + n > MOST_BYTES", as = "textLength + n >= MOST_BYTES")
  @Broken(in = "public int write(", code = "textLength + n > MOST_BYTES", as = "textLength >= MOST_BYTES - 1")
  @Broken(in = "public int write(", code = "return FULL;", as = "textLength = MOST_BYTES;\n return FULL;")
  @Broken(in = "public int write(", code = "return BAD;", as = "textLength = 0;\n return BAD;")
  static void tooManyBytesAreRefused() {
    ThreeRings x = Check.made(LONGEST);
    for (int n : new int[] {0, 9, -1, 64, MIN, MAX}) Check.due("write of " + n, x.write(n, 0x55L), BAD);
    for (int n = 2; n <= 8; n++) Check.due("59 and " + n, x.write(n, 0), FULL);
    Check.due("nothing came", x.about(3), 59);
    Check.due("nothing came", x.fault(), NONE);
    Check.due("59 and 1", x.write(1, 'G'), 60);
    for (int n = 1; n <= 8; n++) Check.due("60 and " + n, x.write(n, 0), FULL);
    Check.due("as it was", x.fault(), 59);
    for (int n = 1; n <= 8; n++) {
      ThreeRings y = filled(60 - n);
      Check.due("one too many", n < 8 ? y.write(n + 1, 0) : FULL, FULL);
      Check.due("just full", y.write(n, 0), 60);
    }
  }

  @Sentence(in = "Promise 3: wipe", says = "THE TEXT is empty: how long it was.")
  @Broken(in = "public int wipe(", code = "textLength = 0;", as = "")
  @Broken(in = "public int wipe(", code = "return was;", as = "return 0;")
  @Broken(in = "public int wipe(", code = "textLength = 0;", as = "textLength = 0;\n plan.clear();")
  static void wipe() {
    ThreeRings x = new ThreeRings();
    Check.due("of nothing", x.wipe(), 0);
    Check.tell(x, "U3G00070");
    x.city();
    Check.due("of eight", x.wipe(), 8);
    Check.due("no bytes", x.about(3), 0);
    Check.due("its fault", x.fault(), 0);
    Check.due("no city any more", x.city(), LATE);
    Check.due("THE CITY stays", x.gate(0, 2), 7);
    Check.due("once more", x.wipe(), 0);
    Check.due("full of it", filled(60).wipe(), 60);
    Check.due("from the first byte again", x.write(2, 0x5532), 2);
    Check.due("and sound", x.fault(), NONE);
  }

  @Sentence(in = "Promise 4: fault", says = "FAULT; NONE.")
  @Broken(code = "return reader.firstFault(text, textLength);", as = "return NONE;")
  @Broken(code = "return reader.firstFault(text, textLength);", as = "return Math.max(0, reader.firstFault(text, textLength));")
  @Broken(code = "return reader.firstFault(text, textLength);", as = "plan.takeFrom(reader.draft);\n return reader.firstFault(text, textLength);")
  static void faultIsAsked() {
    ThreeRings x = Check.made("U3R01G00070");
    Check.due("none", x.fault(), NONE);
    Check.due("asked again", x.fault(), NONE);
    Check.tell(x, "G11");
    Check.due("not at its end", x.fault(), 14);
    Check.tell(x, "9");
    Check.due("a fault", x.fault(), 14);
    Check.due("asked again", x.fault(), 14);
    x.wipe();
    Check.tell(x, "U2G21000G00110");
    for (int n = 0; n < 2; n++) Check.due("of another text", x.fault(), NONE);
    Check.due("THE CITY as it was", x.about(0), 18);
    Check.due("THE CITY as it was", x.about(1), 1);
    Check.due("THE CITY as it was", x.gate(0, 2), 7);
  }

  @Sentence(in = "Promise 5: city", says = "THE TEXT is THE CITY (THE TEXT itself stays; no BRAKES, nothing is SEEN, what was kept is gone): how many GATES.")
  @Broken(in = "public int city(", code = "return plan.gates;", as = "return 0;")
  @Broken(in = "public int city(", code = "return plan.gates;", as = "textLength = 0;\n return plan.gates;")
  @Broken(in = "public int city(", code = "slot0.kept = false;", as = "")
  @Broken(in = "public int city(", code = "slot1.kept = false;", as = "")
  @Broken(in = "public int city(", code = "table.pairUp();", as = "")
  @Broken(in = "void pairUp(", code = "pairs = 0;", as = "")
  @Broken(in = "void startWith(", code = "clearBrakes();", as = "")
  @Broken(in = "void startWith(", code = "seen = 0;", as = "")
  @Broken(in = "void startWith(", code = "pace[r] = paces[r];", as = "pace[r] += paces[r];")
  @Broken(in = "void takeFrom(Plan", code = "parts = other.parts;", as = "")
  static void theTextIsTheCity() {
    ThreeRings x = Check.made("U4R02r11G00050G11103");
    Check.due("THE TEXT stays", x.about(3), 20);
    for (int r = 0; r < 3; r++) {
      x.brake(r, 3, 4);
      x.turn(r, 9);
    }
    x.see(0, 1, 5);
    x.keep(0);
    x.keep(1);
    Check.due("the same once more", x.city(), 2);
    Check.due("THE TEXT still stays", x.about(3), 20);
    for (int r = 0; r < 3; r++) {
      Check.due("pace " + r + " as told", x.pace(r), new int[] {12, 9, 10}[r]);
      Check.due("no brake", x.brake(r, 0, 0), 0);
    }
    Check.due("not braked", x.where(0, 6), 17);
    Check.due("nothing is seen", x.about(2), 0);
    Check.due("slot 0 is empty", x.again(0), LATE);
    Check.due("slot 1 is empty", x.again(1), LATE);
    x.wipe();
    Check.tell(x, "U2G00030G11030G00000");
    Check.due("another one", x.city(), 3);
    Check.due("its U", x.about(0), 12);
    Check.due("its joins", x.open(0, 1, 7), 1);
    Check.due("its joins", x.open(1, 2, 7), 0);
    for (int n = 0; n < 40; n++) Check.due("again and again", x.city(), 3);
    Check.due("its joins as ever", x.open(1, 0, 7), 1);
    x.wipe();
    Check.tell(x, "U3");
    Check.due("one without gates", x.city(), 0);
    Check.due("gone gates", x.gate(0, 0), UNKNOWN);
  }

  @Sentence(in = "Promise 5: city", says = "LATE: a FAULT.")
  @Broken(in = "public int city(", code = "reader.firstFault(text, textLength) != NONE", as = "reader.firstFault(text, textLength) == textLength")
  @Broken(in = "public int city(", code = "reader.firstFault(text, textLength) != NONE", as = "reader.firstFault(text, textLength) >= 0 && textLength > 0 && reader.firstFault(text, textLength) < textLength")
  @Broken(in = "public int city(", code = "return LATE;", as = "plan.takeFrom(reader.draft);\n return LATE;")
  @Broken(in = "public int city(", code = "return LATE;", as = "slot0.kept = false;\n return LATE;")
  @Broken(in = "public int city(", code = "return LATE;", as = "now.startWith(plan.firstPace);\n return LATE;")
  static void aFaultIsLate() {
    Check.due("empty", new ThreeRings().city(), LATE);
    for (String text : new String[] {"U", "U1", "U2R", "U2G0000", "U2x", "U2R01R0", "U2G00120"}) {
      ThreeRings x = new ThreeRings();
      Check.tell(x, text);
      Check.due("city of " + text, x.city(), LATE);
    }
    ThreeRings x = Check.made("U4R02G00050G11103");
    x.turn(0, 9);
    x.brake(0, 3, 4);
    x.see(0, 1, 5);
    x.keep(0);
    Check.tell(x, "G");
    Check.due("not at its end", x.city(), LATE);
    Check.tell(x, "9");
    Check.due("a fault", x.city(), LATE);
    Check.due("U as it was", x.about(0), 24);
    Check.due("gates as they were", x.about(1), 2);
    Check.due("seen as it was", x.about(2), 1);
    Check.due("pace as it was", x.pace(0), 19);
    Check.due("kept as it was", x.again(0), 1);
    Check.due("brake as it was", x.brake(0, 0, 0), 4);
    for (String other : new String[] {"U9R07G21100G0", "U9R07G21100x"}) {
      x.wipe();
      Check.tell(x, other);
      Check.due("another text", x.city(), LATE);
      Check.due("U as it was", x.about(0), 24);
      Check.due("gates as they were", x.about(1), 2);
      Check.due("gate as it was", x.gate(0, 2), 5);
      Check.due("pace as it was", x.pace(0), 19);
    }
  }

  // ---- Promises 6 to 11

  @Sentence(in = "Promise 6: about", says = "U (what = 0), GATES (1), SEEN (2), bytes of THE TEXT (3).")
  @Broken(in = "public int about(", code = "case 0: return plan.parts;", as = "case 0: return FIRST_PARTS;")
  @Broken(in = "public int about(", code = "case 1: return plan.gates;", as = "case 1: return now.seen;")
  @Broken(in = "public int about(", code = "case 2: return now.seen;", as = "case 2: return textLength;")
  @Broken(in = "public int about(", code = "case 3: return textLength;", as = "case 3: return plan.gates;")
  static void about() {
    ThreeRings x = Check.made("U7R01G00410G21352G10004");
    for (int seen = 0; seen <= 8; seen++) {
      int[] want = {42, 3, seen, 23};
      for (int w = 0; w < 4; w++) Check.due("about " + w, x.about(w), want[w]);
      x.see(0, 1, 0);
    }
    Check.tell(x, "G");
    Check.due("bytes, not THE CITY's", x.about(3), 24);
    Check.due("gates, not THE TEXT's", x.about(1), 3);
  }

  @Sentence(in = "Promise 6: about", says = "BAD.")
  @Broken(in = "public int about(", code = "default: return BAD;", as = "case 4: return 0;\n default: return BAD;")
  @Broken(in = "public int about(", code = "default: return BAD;", as = "case -1: return 0;\n default: return BAD;")
  @Broken(in = "public int about(", code = "default: return BAD;", as = "default: return UNKNOWN;")
  static void aboutWhatIsBad() {
    for (int what : new int[] {-1, 4, MIN, MAX}) {
      Check.due("about " + what, new ThreeRings().about(what), BAD);
      Check.due("about " + what, Check.made(LONGEST).about(what), BAD);
    }
  }

  @Sentence(in = "Promise 7: gate", says = "Of a GATE RING (what = 0), 0 inner, 1 outer rim (1), place (2), KIND (3).")
  @Broken(in = "public int gate(", code = "plan.ring[gate]", as = "plan.rim[gate]")
  @Broken(in = "public int gate(", code = "return plan.rim[gate]", as = "return 1 - plan.rim[gate]")
  @Broken(in = "public int gate(", code = "plan.place[gate]", as = "plan.place[0]")
  @Broken(in = "public int gate(", code = "plan.kind[gate]", as = "plan.kind[0]")
  static void gate() {
    ThreeRings x = Check.made("U7R01G00410G21352G10004G11201");
    int[][] gates = {{0, 0, 41, 0}, {2, 1, 35, 2}, {1, 0, 0, 4}, {1, 1, 20, 1}};
    for (int g = 0; g < 4; g++) {
      for (int w = 0; w < 4; w++) Check.due("gate " + g + " " + w, x.gate(g, w), gates[g][w]);
    }
    Check.due("the eighth", Check.made(LONGEST).gate(7, 2), 6);
  }

  @Sentence(in = "Promise 7: gate", says = "UNKNOWN; BAD.")
  @Broken(in = "boolean hasGate(", code = "gate >= 0 && gate < gates", as = "gate >= 0 && gate < MOST_GATES")
  @Broken(in = "boolean hasGate(", code = "gate >= 0 && gate < gates", as = "gate < gates")
  @Broken(in = "public int gate(", code = "default: return BAD;", as = "default: return UNKNOWN;")
  @Broken(in = "public int gate(", code = "default: return BAD;", as = "case 4: return 0;\n default: return BAD;")
  @Broken(in = "public int gate(", code = "return UNKNOWN;", as = "return what < 0 || what > 3 ? BAD : UNKNOWN;")
  static void gateIsRefused() {
    ThreeRings x = Check.made("U7R01G00410G21352G10004");
    for (int g : Check.noGates(3)) {
      for (int what = -1; what <= 4; what++) Check.due("gate " + g + " " + what, x.gate(g, what), UNKNOWN);
    }
    for (int what : new int[] {-1, 4, MIN, MAX}) Check.due("gate 2 " + what, x.gate(2, what), BAD);
    ThreeRings full = Check.made(LONGEST);
    for (int g : Check.noGates(8)) Check.due("gate " + g + " of eight", full.gate(g, 0), UNKNOWN);
  }

  @Sentence(in = "Promise 8: pace", says = "A RING's pace, and 10.")
  @Broken(in = "public int pace(", code = "now.pace[ring] + 10", as = "plan.firstPace[ring] + 10")
  @Broken(in = "public int pace(", code = "now.pace[ring] + 10", as = "Math.abs(now.pace[ring]) + 10")
  @Broken(in = "public int pace(", code = "now.pace[ring] + 10", as = "now.pace[ring]")
  static void pace() {
    ThreeRings x = Check.made("U2R09r19r20");
    Check.due("to the right", x.pace(0), 19);
    Check.due("to the left", x.pace(1), 1);
    Check.due("standing", x.pace(2), 10);
    x.brake(0, 0, 99);
    Check.due("braked or not", x.pace(0), 19);
    x.turn(2, -4);
    Check.due("turned otherwise", x.pace(2), 6);
  }

  @Sentence(in = "Promise 8: pace", says = "UNKNOWN.")
  @Broken(code = "return ring >= 0 && ring < RINGS;", as = "return ring < RINGS;")
  @Broken(code = "return ring >= 0 && ring < RINGS;", as = "return ring >= 0;")
  @Broken(in = "public int pace(", code = ": UNKNOWN", as = ": BAD")
  static void paceOfNoRing() {
    for (int r : Check.NO_RINGS) Check.due("pace " + r, new ThreeRings().pace(r), UNKNOWN);
  }

  @Sentence(in = "Promise 9: turn", says = "A RING turns otherwise (p -9 .. 9): its pace that was, and 10.")
  @Broken(in = "public int turn(", code = "return was + 10;", as = "return p + 10;")
  @Broken(in = "public int turn(", code = "now.pace[ring] = p;", as = "now.pace[ring] = Math.abs(p);")
  @Broken(in = "public int turn(", code = "p < -MOST_PACE", as = "p <= -MOST_PACE")
  @Broken(in = "public int turn(", code = "p > MOST_PACE", as = "p >= MOST_PACE")
  static void turn() {
    ThreeRings x = Check.made("U2R09r19G00000G11000G21000");
    int[] was = {19, 1, 10};
    for (int p = -9; p <= 9; p++) {
      for (int r = 0; r < 3; r++) {
        Check.due("turn " + r, x.turn(r, p), was[r]);
        was[r] = 10 + p;
        Check.due("pace " + r, x.pace(r), 10 + p);
        Check.due("from second 0 on", x.where(r, 1), Math.floorMod(p, 12));
      }
    }
  }

  @Sentence(in = "Promise 9: turn", says = "UNKNOWN; BAD.")
  @Broken(in = "public int turn(", code = "p < -MOST_PACE", as = "p < -MOST_PACE - 1")
  @Broken(in = "public int turn(", code = "p > MOST_PACE", as = "p > MOST_PACE + 1")
  @Broken(in = "public int turn(", code = "return UNKNOWN;", as = "return p > MOST_PACE ? BAD : UNKNOWN;")
  @Broken(in = "public int turn(", code = "return BAD;", as = "now.pace[ring] = 9;\n return BAD;")
  static void turnIsRefused() {
    ThreeRings x = Check.made("U2R03");
    for (int r : Check.NO_RINGS) {
      for (int p : new int[] {0, 9, -10, 10}) Check.due("turn of ring " + r + " by " + p, x.turn(r, p), UNKNOWN);
    }
    for (int p : new int[] {-10, 10, MIN, MAX}) {
      for (int r = 0; r < 3; r++) Check.due("turn by " + p, x.turn(r, p), BAD);
    }
    Check.due("as it was", x.pace(0), 13);
    Check.due("as it was", x.pace(1), 10);
  }

  @Sentence(in = "Promise 10: brake", says = "A BRAKE: how long it was.")
  @Broken(in = "public int brake(", code = "return was;", as = "return d;")
  @Broken(in = "public int brake(", code = "int was = now.brakeLong[ring];", as = "int was = now.brakeFrom[ring];")
  @Broken(in = "public int brake(", code = "now.setBrake(ring, s, d);", as = "if (was == 0) now.setBrake(ring, s, d);")
  static void brake() {
    ThreeRings x = Check.made("U2R01R12G00000");
    Check.due("none at first", x.brake(0, 99, 99), 0);
    Check.due("the longest", x.brake(0, 2, 3), 99);
    Check.due("the same", x.brake(0, 2, 3), 3);
    Check.due("the last one counts", x.where(0, 6), 3);
    Check.due("another ring's", x.brake(1, 7, 5), 0);
    Check.due("none", x.brake(0, 50, 0), 3);
    Check.due("none was", x.brake(0, 0, 1), 0);
    Check.due("of a second", x.brake(0, 0, 0), 1);
    Check.due("not braked", x.where(0, 7), 7);
  }

  @Sentence(in = "Promise 10: brake", says = "UNKNOWN: ring; BAD: s, d.")
  @Broken(in = "public int brake(", code = "s < 0", as = "s < -1")
  @Broken(in = "public int brake(", code = "s > MOST_BRAKE", as = "s > SECONDS")
  @Broken(in = "public int brake(", code = "d < 0", as = "d < -1")
  @Broken(in = "public int brake(", code = "d > MOST_BRAKE", as = "d > 100")
  @Broken(in = "public int brake(", code = "return UNKNOWN;", as = "return s < 0 ? BAD : UNKNOWN;")
  static void brakeIsRefused() {
    ThreeRings x = Check.made("U2R01G00000");
    x.brake(0, 5, 6);
    int[] wrong = {-1, 100, MIN, MAX};
    for (int r : Check.NO_RINGS) {
      Check.due("ring " + r, x.brake(r, 0, 0), UNKNOWN);
      for (int w : wrong) Check.due("ring " + r + " ahead of " + w, x.brake(r, w, w), UNKNOWN);
    }
    for (int w : wrong) {
      Check.due("s " + w, x.brake(0, w, 0), BAD);
      Check.due("d " + w, x.brake(0, 0, w), BAD);
      Check.due("s, d " + w, x.brake(0, w, w), BAD);
    }
    Check.due("as it was", x.where(0, 12), 6);
    Check.due("as it was", x.brake(0, 0, 0), 6);
  }

  @Sentence(in = "Promise 11: dry", says = "DRY: how many RINGS stand then.")
  @Broken(in = "public int dry(", code = "now.pace[r] == 0", as = "now.pace[r] == 0 && now.brakeLong[r] == 0")
  @Broken(in = "public int dry(", code = "now.pace[r] == 0", as = "now.pace[r] == 0 || now.brakeLong[r] > 0")
  @Broken(in = "public int dry(", code = "return standing;", as = "return RINGS - standing;")
  @Broken(in = "public int dry(", code = "now.slow(r, k);\n            if (now.pace[r] == 0) {\n                standing++;\n            }", as = "if (now.pace[r] == 0) {\n standing++;\n }\n now.slow(r, k);")
  static void dry() {
    ThreeRings x = Check.made("U2R03r11");
    Check.due("dry 0", x.dry(0), 1);
    Check.due("nothing by 0", x.pace(0), 13);
    Check.due("dry 1", x.dry(1), 2);
    Check.due("from the right", x.pace(0), 12);
    Check.due("from the left", x.pace(1), 10);
    x.brake(0, 0, 50);
    x.brake(2, 0, 50);
    Check.due("braked or not", x.dry(0), 2);
    x.turn(1, -5);
    Check.due("dry 4", x.dry(4), 2);
    Check.due("not past 0", x.pace(1), 9);
    Check.due("dry 9", x.dry(9), 3);
    Check.due("all stand", x.dry(9), 3);
  }

  @Sentence(in = "Promise 11: dry", says = "BAD.")
  @Broken(in = "public int dry(", code = "k < 0", as = "k < -1")
  @Broken(in = "public int dry(", code = "k > MOST_PACE", as = "k > 10")
  @Broken(in = "public int dry(", code = "return BAD;", as = "now.pace[0] = 0;\n return BAD;")
  static void dryIsRefused() {
    ThreeRings x = Check.made("U2R09r19");
    for (int k : new int[] {-1, 10, MIN, MAX}) Check.due("dry by " + k, x.dry(k), BAD);
    Check.due("as it was", x.pace(0), 19);
    Check.due("as it was", x.pace(1), 1);
  }
}
