/**
 * "Answers of several refusals are the first one as they are told at the call"; "a refused call changes nothing":
 * each refusal of each call on an object that holds something of everything, which is looked at all over behind it.
 * What is asked in mind changes nothing either.
 */
public final class Refusals extends CallTest {
  private static final int BELOW = -1000000000;
  // What the SHELVES of a full object hold.
  private static final int TEXT = 0;
  private static final int DRAWER = 1;
  private static final int NOTHING = 2;
  private static final int SHORTS = 3;
  private static final int INTS = 4;
  private static final int MAP = 5;
  private static final int TOO_SHORT = 6;
  private static final int NO_HEIGHT = 7;
  // And its CELLS.
  private static final int LOW = 0;
  private static final int TOP = 1;
  private static final int PLAIN = 8;
  private static final int HOUSE = 11;
  private static final int NO_CELL = 12;
  private static final int DRAWERS = 6;

  /** What is done with an object. */
  private interface Call {
    long on(LandByMap asked);
  }

  /** How an object is made that holds something. */
  private interface Maker {
    LandByMap made();
  }

  public static void main(String[] args) {
    faults();
    ofLands();
    ofHauls();
    ofDrawers();
    ofSheets();
    ofShelves();
    copies();
    elements();
    withoutDrawers();
    for (int law = 0; law <= 2; law++) {
      inMind(law);
    }
    end("all refusals are as told, and change nothing");
  }

  /** Of everything something: six DRAWERS, an IMAGE of before, a MAP that is said in part, SHELVES of all sorts. */
  private static LandByMap full() {
    fresh("s34;t20;l1;q5;b11;g0 0;g1 9;d19;d43;d64;d50;d30;d77;w03 350;w01 950;w06 350;w110 250;w58 399;");
    x.says(3, 4);
    x.says(4, 1);
    x.image();
    x.haul(6, 3);
    x.year();
    x.says(5, -1);
    x.says(7, 9);
    x.set(0, 21);
    row(TEXT, 0, 't', '9', ';', 'x');
    x.keep(DRAWER, 1, 1);
    x.keep(NOTHING, 0, 0);
    row(SHORTS, 1, 300, -2);
    row(INTS, 2, 70000, -3);
    row(MAP, 0, 0, 9, 3, 99, 1, 2, 3, 4, 5, 99, 7, 2);
    row(TOO_SHORT, 0, 3, 3, 3, 3, 3, 3, 3, 3, 3, 3, 3);
    row(NO_HEIGHT, 0, 3, 3, 3, 3, 3, 3, 3, 3, 3, 3, 3, 10);
    return x;
  }

  /** No DRAWERS, no IMAGE, but a MAP that is said in part. */
  private static LandByMap bare() {
    fresh("s22;t7;g0 9;g1 0;b3;");
    x.says(0, 3);
    row(TEXT, 0, 'l', '0', ';');
    return x;
  }

  /** All that can be seen of an object, but the IMAGE. */
  private static String seen(LandByMap asked) {
    StringBuilder text = new StringBuilder();
    for (int what = 0; what < 6; what++) {
      text.append(asked.state(what)).append(' ').append(asked.count(what)).append(' ');
    }
    int cells = asked.count(0);
    for (int c = 0; c < cells; c++) {
      text.append("| ");
      for (int what = 0; what < 4; what++) {
        text.append(asked.cell(c, what)).append(' ');
      }
    }
    int drawers = asked.count(1);
    for (int k = 0; k < drawers; k++) {
      text.append("d ");
      for (int what = 0; what < 4; what++) {
        text.append(asked.drawer(k, what)).append(' ');
      }
    }
    return text.toString();
  }

  private static String shelf(LandByMap asked, int d) {
    StringBuilder text = new StringBuilder("SHELF ");
    text.append(asked.price(d)).append(' ').append(asked.toss(d)).append(": ");
    long held = element(asked, d, 0);
    for (int i = 1; held != NO_ELEMENT && i <= 100; i++) {
      text.append(held).append(' ');
      held = element(asked, d, i);
    }
    // Which SORT it is shows by the one with which it may be copied.
    text.append(asked.copy(d, 0, TEXT, 0, 0)).append(asked.copy(d, 0, SHORTS, 0, 0)).append(asked.copy(d, 0, INTS, 0, 0));
    return text.append('\n').toString();
  }

  /** All of an object; in the end the IMAGE comes back, to be seen too. */
  private static String all(LandByMap asked) {
    StringBuilder text = new StringBuilder(seen(asked)).append('\n');
    for (int d = 0; d < 8; d++) {
      text.append(shelf(asked, d));
    }
    return text.append(asked.restore()).append(' ').append(seen(asked)).toString();
  }

  private static void unchanged(Maker maker, Call prepare, String name, Call call) {
    LandByMap untouched = maker.made();
    prepare.on(untouched);
    String was = all(untouched);
    LandByMap asked = maker.made();
    prepare.on(asked);
    call.on(asked);
    same("all behind " + name, all(asked), was);
  }

  private static void refused(Maker maker, Call prepare, String name, Call call, long due) {
    LandByMap asked = maker.made();
    prepare.on(asked);
    due(name, call.on(asked), due);
    unchanged(maker, prepare, name, call);
  }

  private static long asItIs(LandByMap asked) {
    return 0;
  }

  private static void refused(String name, Call call, long due) {
    refused(Refusals::full, Refusals::asItIs, name, call, due);
  }

  private static void refusedBare(String name, Call call, long due) {
    refused(Refusals::bare, Refusals::asItIs, name, call, due);
  }

  // ---- lands

  /** "Without FAULT all of it comes; with one nothing." */
  private static void faults() {
    of(2);
    String[] texts = {
      "t5;l2;q3;g0 9;b0;w00 11;x", "t5;l2;q3;g0 9;b0;w00 11;l", "t5;l2;q3;g0 9;b0;w00 11;l3;",
      "t5;s33;", "w00 11;d00;", "t5;w60 11;", "t5;b11;", "b0;b0;", "g0 1;g12 1;", "q0;q12;", "g0 1;l9;t1",
      "w00 11;w00 11;", "w50 11;w50 11;w50 11;w50 11;", "w10 11;w112 11;", "w10 11;w10 10;", "w10 11;w10 1100;",
    };
    int[] faults = {
      -1024, -1025, -2024, -2003, -2007, -2003, -2003, -2003, -2005, -2003, -1010, -2007, -2021, -2007, -2007, -2007,
    };
    for (int i = 0; i < texts.length; i++) {
      String text = texts[i];
      refused(Refusals::full, asked -> put(asked, text), "land of " + text, asked -> asked.land(TEXT), faults[i]);
    }
    String[] anew = {"s44;g15 1;g16 1;", "s44;d00;d80;", "s44;b3;d00;w00 11;s22;", "t5;l2;g0 1;s2", "b0;q1;s55;"};
    int[] ends = {-2010, -2008, -2018, -1013, -2006};
    for (int i = 0; i < anew.length; i++) {
      String text = anew[i];
      refused(Refusals::bare, asked -> put(asked, text), "land of " + text, asked -> asked.land(TEXT), ends[i]);
    }
    refused("land(-1)", asked -> asked.land(-1), -1);
    refused("land(8)", asked -> asked.land(8), -1);
    refused("land of nothing", asked -> asked.land(NOTHING), -11);
    refused("land of a DRAWER", asked -> asked.land(DRAWER), -12);
    refused("land of shorts goes ahead of FAULTS", asked -> asked.land(SHORTS), -12);
    refused("land of ints goes ahead of FAULTS", asked -> asked.land(INTS), -12);
    refused("land of bytes that are none", asked -> asked.land(MAP), -1000);
  }

  private static long put(LandByMap asked, String text) {
    asked.row(TEXT, 0, text.length());
    for (int i = 0; i < text.length(); i++) {
      asked.put(TEXT, i, text.charAt(i));
    }
    return 0;
  }

  private static void ofLands() {
    int[] none = {-1, NO_CELL};
    for (int c : none) {
      of(3);
      refused("cell, no CELL", asked -> asked.cell(c, 0), -1);
      of(6);
      refused("says, no CELL", asked -> asked.says(c, 5), -1);
      refused("says, no CELL, unsaid", asked -> asked.says(c, -1), -1);
    }
    of(3);
    refused("cell, what -1", asked -> asked.cell(0, -1), -1);
    refused("cell, what 4", asked -> asked.cell(0, 4), -1);
    of(4);
    refused("state(-1)", asked -> asked.state(-1), -1);
    refused("state(6)", asked -> asked.state(6), -1);
    of(5);
    refused("set(0, -1)", asked -> asked.set(0, -1), -1);
    refused("set(0, 1000)", asked -> asked.set(0, 1000), -1);
    refused("set(1, -1)", asked -> asked.set(1, -1), -1);
    refused("set(1, 3)", asked -> asked.set(1, 3), -1);
    refused("set(-1, 0)", asked -> asked.set(-1, 0), -1);
    refused("set(2, 0)", asked -> asked.set(2, 0), -1);
    of(6);
    refused("says(7, -2)", asked -> asked.says(7, -2), -1);
    refused("says(7, 10)", asked -> asked.says(7, 10), -1);
    of(7);
    refused("map(-1)", asked -> asked.map(-1), -1);
    refused("map(8)", asked -> asked.map(8), -1);
    refused("map of nothing", asked -> asked.map(NOTHING), -11);
    refused("map of a DRAWER", asked -> asked.map(DRAWER), -12);
    refused("map of shorts, that are too few", asked -> asked.map(SHORTS), -12);
    refused("map of ints, that are too few", asked -> asked.map(INTS), -12);
    refused("map, too short", asked -> asked.map(TOO_SHORT), -13);
    refused("map, no HEIGHT", asked -> asked.map(NO_HEIGHT), -13);
    refused("map, too short and no HEIGHT", asked -> asked.map(TEXT), -13);
    refused(Refusals::full, asked -> asked.row(TEXT, 0, 13), "map, too long", asked -> asked.map(TEXT), -13);
    Call shorts = asked -> asked.row(SHORTS, 1, 12);
    refused(Refusals::full, shorts, "map of shorts, as many as CELLS", asked -> asked.map(SHORTS), -12);
  }

  // ---- water, hauls

  /** A pair of CELLS that is refused, by the calls that haul: -1 or -3. */
  private static void noHaul(String name, int from, int to, int due) {
    of(9);
    refused("hours, " + name, asked -> asked.hours(from, to), due);
    of(10);
    refused("haul, " + name, asked -> asked.haul(from, to), due);
    of(23);
    refused("harm, " + name, asked -> asked.harm(from, to), BELOW + due);
  }

  private static void ofHauls() {
    noHaul("no CELL", -1, PLAIN, -1);
    noHaul("no CELL", NO_CELL, PLAIN, -1);
    noHaul("to no CELL", PLAIN, -1, -1);
    noHaul("to no CELL", PLAIN, NO_CELL, -1);
    noHaul("one twice", PLAIN, PLAIN, -1);
    noHaul("from 0", LOW, PLAIN, -3);
    noHaul("to 9", PLAIN, TOP, -3);
    noHaul("from a HOUSE", HOUSE, PLAIN, -3);
    noHaul("to a HOUSE", PLAIN, HOUSE, -3);
    noHaul("one twice goes ahead of its HOUSE", HOUSE, HOUSE, -1);
    noHaul("one twice goes ahead of its HEIGHT 0", LOW, LOW, -1);
    noHaul("one twice goes ahead of its HEIGHT 9", TOP, TOP, -1);
    noHaul("no CELL goes ahead of a HOUSE", HOUSE, NO_CELL, -1);
    noHaul("no CELL goes ahead of a HOUSE", NO_CELL, HOUSE, -1);
    noHaul("no CELL goes ahead of HEIGHT 0", LOW, -1, -1);
    noHaul("no CELL goes ahead of HEIGHT 9", -1, TOP, -1);
    of(8);
    refused("water(-1)", asked -> asked.water(-1), -1);
    refused("water(3)", asked -> asked.water(3), -1);
    of(11);
    refused("like(-1)", asked -> asked.like(-1), -1);
    refused("like(2)", asked -> asked.like(2), -1);
    of(12);
    refused("least, none", LandByMap::least, -4);
    of(13);
    refused("works(-1)", asked -> asked.works(-1), -1);
    refused("works(8)", asked -> asked.works(8), -1);
    refused("works of nothing", asked -> asked.works(NOTHING), -11);
    refused("works of a DRAWER", asked -> asked.works(DRAWER), -12);
    refused("works of shorts", asked -> asked.works(SHORTS), -12);
    refused("works of ints", asked -> asked.works(INTS), -12);
    of(14);
    refused("dig(-1)", asked -> asked.dig(-1), -1);
    refused("dig(3)", asked -> asked.dig(3), -1);
  }

  // ---- drawers

  private static void ofDrawers() {
    int[] none = {-1, DRAWERS};
    for (int k : none) {
      of(15);
      refused("drawer, no DRAWER", asked -> asked.drawer(k, 0), -1);
      of(16);
      refused("draws, no DRAWER", asked -> asked.draws(k, 0), -1);
      of(29);
      refused("keep, no DRAWER", asked -> asked.keep(MAP, 1, k), -1);
    }
    of(15);
    refused("drawer, what -1", asked -> asked.drawer(0, -1), -1);
    refused("drawer, what 4", asked -> asked.drawer(0, 4), -1);
    of(16);
    refused("draws, no CELL", asked -> asked.draws(0, -1), -1);
    refused("draws, no CELL", asked -> asked.draws(0, NO_CELL), -1);
    of(20);
    refused("seeded, n 0", asked -> asked.seeded(0, 1, 0), -1);
    refused("seeded, n 31", asked -> asked.seeded(31, 1, 0), -1);
    refused("seeded, what -1", asked -> asked.seeded(1, 1, -1), -1);
    refused("seeded, what 2", asked -> asked.seeded(1, 1, 2), -1);
    of(24);
    refused("chosen(-1)", asked -> asked.chosen(-1), -1);
    refused("chosen(3)", asked -> asked.chosen(3), -1);
    of(28);
    refused("count(-1)", asked -> asked.count(-1), -1);
    refused("count(6)", asked -> asked.count(6), -1);
  }

  /** "-3: no DRAWERS", "-3: there is none"; a number out of range goes ahead of it. */
  private static void withoutDrawers() {
    of(15);
    refusedBare("drawer(0, 0)", asked -> asked.drawer(0, 0), -1);
    of(16);
    refusedBare("draws(0, 0)", asked -> asked.draws(0, 0), -1);
    of(17);
    refusedBare("year", LandByMap::year, -3);
    of(18);
    refusedBare("still", LandByMap::still, -3);
    of(19);
    refusedBare("rings", LandByMap::rings, -3);
    of(20);
    refusedBare("seeded", asked -> asked.seeded(1, 1, 0), -3);
    refusedBare("seeded", asked -> asked.seeded(30, 1, 1), -3);
    refusedBare("seeded, n 0", asked -> asked.seeded(0, 1, 0), -1);
    refusedBare("seeded, n 31", asked -> asked.seeded(31, 1, 0), -1);
    refusedBare("seeded, what -1", asked -> asked.seeded(1, 1, -1), -1);
    refusedBare("seeded, what 2", asked -> asked.seeded(1, 1, 2), -1);
    of(24);
    for (int what = 0; what < 3; what++) {
      int asks = what;
      refusedBare("chosen(" + what + ")", asked -> asked.chosen(asks), -3);
    }
    refusedBare("chosen(-1)", asked -> asked.chosen(-1), -1);
    refusedBare("chosen(3)", asked -> asked.chosen(3), -1);
    of(27);
    refusedBare("restore", LandByMap::restore, -3);
    of(29);
    refusedBare("keep", asked -> asked.keep(TEXT, 1, 0), -1);
  }

  // ---- sheets, blots

  private static void noSeam(String name, int d, int e, int column, int due) {
    of(21);
    refused("seam, " + name, asked -> asked.seam(d, e, column, true), due);
    refused("seam, " + name, asked -> asked.seam(d, e, column, false), due);
  }

  private static void ofSheets() {
    int[] none = {-1, 8};
    for (int d : none) {
      noSeam("no SHELF", d, MAP, 1, -1);
      noSeam("no SHELF", MAP, d, 1, -1);
      noSeam("no SHELF goes ahead of nothing", d, NOTHING, 1, -1);
      noSeam("no SHELF goes ahead of nothing", NOTHING, d, 1, -1);
      noSeam("no SHELF goes ahead of another kind", DRAWER, d, 1, -1);
      noSeam("no SHELF goes ahead of too few", d, TOO_SHORT, 1, -1);
    }
    int[] columns = {-1, 0, 4, 5};
    for (int column : columns) {
      noSeam("COLUMN " + column, MAP, MAP, column, -1);
      noSeam("COLUMN " + column + " goes ahead of nothing", NOTHING, MAP, column, -1);
      noSeam("COLUMN " + column + " goes ahead of nothing", MAP, NOTHING, column, -1);
      noSeam("COLUMN " + column + " goes ahead of another kind", SHORTS, MAP, column, -1);
      noSeam("COLUMN " + column + " goes ahead of too few", MAP, TOO_SHORT, column, -1);
    }
    noSeam("nothing", NOTHING, MAP, 1, -11);
    noSeam("nothing", MAP, NOTHING, 1, -11);
    int[] others = {DRAWER, SHORTS, INTS};
    for (int d : others) {
      noSeam("another kind", d, MAP, 1, -12);
      noSeam("another kind", MAP, d, 1, -12);
      noSeam("nothing goes ahead of another kind", NOTHING, d, 1, -11);
      noSeam("nothing goes ahead of another kind", d, NOTHING, 1, -11);
      noSeam("another kind goes ahead of too few", d, TOO_SHORT, 1, -12);
      noSeam("another kind goes ahead of too few", TOO_SHORT, d, 1, -12);
      noSeam("another kind goes ahead of no HEIGHT", NO_HEIGHT, d, 3, -12);
    }
    noSeam("nothing goes ahead of too few", NOTHING, TOO_SHORT, 1, -11);
    noSeam("nothing goes ahead of no HEIGHT", NO_HEIGHT, NOTHING, 1, -11);
    int[] bad = {TOO_SHORT, NO_HEIGHT, TEXT};
    for (int d : bad) {
      noSeam("not as many, or no HEIGHT", d, MAP, 3, -13);
      noSeam("not as many, or no HEIGHT", MAP, d, 3, -13);
    }
    // The first has no HEIGHT in a COLUMN that would come from the second.
    noSeam("no HEIGHT that isn't taken", NO_HEIGHT, MAP, 1, -13);
    ofBlots();
    of(25);
    refused("judge(-1)", asked -> asked.judge(-1), -1);
    refused("judge(8)", asked -> asked.judge(8), -1);
    refused("judge of nothing", asked -> asked.judge(NOTHING), -11);
    refused("judge of a DRAWER", asked -> asked.judge(DRAWER), -12);
  }

  private static void noBlot(String name, int up, int down, int due) {
    refused("blot, " + name, asked -> asked.blot(up, down), BELOW + due);
  }

  /** On the full object there is no LEAST, so that -4 is told where nothing else is. */
  private static void ofBlots() {
    of(22);
    noBlot("no CELL", -1, PLAIN, -1);
    noBlot("no CELL", NO_CELL, PLAIN, -1);
    noBlot("no CELL", PLAIN, -1, -1);
    noBlot("no CELL", PLAIN, NO_CELL, -1);
    noBlot("one twice", PLAIN, PLAIN, -1);
    noBlot("one twice goes ahead of beyond 9", TOP, TOP, -1);
    noBlot("one twice goes ahead of below 0", LOW, LOW, -1);
    noBlot("no CELL goes ahead of beyond 9", TOP, NO_CELL, -1);
    noBlot("no CELL goes ahead of below 0", -1, LOW, -1);
    noBlot("beyond 9 goes ahead of no LEAST", 7, PLAIN, -3);
    noBlot("below 0 goes ahead of no LEAST", PLAIN, LOW, -3);
    noBlot("no LEAST", PLAIN, 9, -4);
    // As it is the LAND is like what is said, but at a HOUSE it would not be.
    Call unsaid = asked -> {
      for (int c = 0; c < NO_CELL; c++) {
        asked.says(c, -1);
      }
      return 0;
    };
    refused(Refusals::full, unsaid, "blot at a HOUSE", asked -> asked.blot(HOUSE, PLAIN), BELOW - 4);
    refused(Refusals::full, unsaid, "blot at a HOUSE", asked -> asked.blot(PLAIN, HOUSE), BELOW - 4);
    refused(Refusals::full, unsaid, "beyond 9 goes ahead of a HOUSE", asked -> asked.blot(TOP, HOUSE), BELOW - 3);
    refused(Refusals::full, unsaid, "below 0 goes ahead of a HOUSE", asked -> asked.blot(HOUSE, LOW), BELOW - 3);
  }

  // ---- shelves

  private static void ofShelves() {
    int[] none = {-1, 8};
    for (int d : none) {
      of(29);
      refused("keep, no SHELF", asked -> asked.keep(d, 0, 0), -1);
      refused("keep, no SHELF", asked -> asked.keep(d, 1, 0), -1);
      of(30);
      refused("row, no SHELF", asked -> asked.row(d, 0, 1), -1);
      refused("row, no SHELF goes ahead of a size below 0", asked -> asked.row(d, 0, -1), -1);
      of(31);
      refused("put, no SHELF", asked -> asked.put(d, 0, 1), -1);
      refused("put, no SHELF goes ahead of no place", asked -> asked.put(d, -1, 1), -1);
      of(34);
      refused("price, no SHELF", asked -> asked.price(d), -1);
      of(35);
      refused("toss, no SHELF", asked -> asked.toss(d), -1);
    }
    of(29);
    refused("keep, what -1", asked -> asked.keep(MAP, -1, 0), -1);
    refused("keep, what 2", asked -> asked.keep(MAP, 2, 0), -1);
    refused("keep, where a DRAWER is", asked -> asked.keep(DRAWER, 1, DRAWERS), -1);
    of(30);
    for (int d = 0; d < 8; d++) {
      int shelf = d;
      refused("row, 101", asked -> asked.row(shelf, 0, 101), -1);
      refused("row, SORT -1", asked -> asked.row(shelf, -1, 1), -1);
      refused("row, SORT 3", asked -> asked.row(shelf, 3, 1), -1);
      refused("row, a size below 0", asked -> asked.row(shelf, 0, -1), -14);
    }
    refused("row, a SORT goes ahead of a size below 0", asked -> asked.row(MAP, 3, -1), -1);
    refused("row, a SORT goes ahead of a size below 0", asked -> asked.row(MAP, -1, -1), -1);
    of(31);
    refused("put in nothing", asked -> asked.put(NOTHING, 0, 1), -11);
    refused("put in nothing, at no place", asked -> asked.put(NOTHING, -1, 1), -11);
    refused("put in a DRAWER", asked -> asked.put(DRAWER, 0, 1), -12);
    refused("put in a DRAWER, at no place", asked -> asked.put(DRAWER, 100, 1), -12);
    refused("put at -1", asked -> asked.put(SHORTS, -1, 1), -13);
    refused("put behind the last", asked -> asked.put(SHORTS, 2, 1), -13);
    refused("put at 100", asked -> asked.put(SHORTS, 100, 1), -13);
    of(34);
    refused("price of nothing", asked -> asked.price(NOTHING), -11);
    refused("price of a ROW", asked -> asked.price(SHORTS), -12);
    of(35);
    refused("toss of nothing", asked -> asked.toss(NOTHING), -11);
    refused("toss of a ROW", asked -> asked.toss(SHORTS), -12);
    refused(Refusals::full, asked -> asked.keep(DRAWER, 1, 3), "toss of a TOLD", asked -> asked.toss(DRAWER), -15);
    refused(Refusals::full, asked -> asked.keep(DRAWER, 1, 4), "toss of FIGURE 0", asked -> asked.toss(DRAWER), -15);
  }

  private static void noCopy(String name, int d, int i, int e, int j, int n, int due) {
    refused("copy, " + name, asked -> asked.copy(d, i, e, j, n), due);
  }

  private static void copies() {
    of(33);
    int[] none = {-1, 8};
    for (int d : none) {
      noCopy("no SHELF", d, 0, MAP, 0, 1, -1);
      noCopy("no SHELF", MAP, 0, d, 0, 1, -1);
      noCopy("no SHELF goes ahead of nothing", d, 0, NOTHING, 0, 1, -1);
      noCopy("no SHELF goes ahead of nothing", NOTHING, 0, d, 0, 1, -1);
      noCopy("no SHELF goes ahead of another kind", d, 0, DRAWER, 0, 1, -1);
      noCopy("no SHELF goes ahead of another kind", DRAWER, 0, d, 0, 1, -1);
      noCopy("no SHELF goes ahead of no place", d, 0, MAP, -1, 1, -1);
      noCopy("no SHELF goes ahead of no place", MAP, 0, d, 0, -1, -1);
    }
    noCopy("nothing", NOTHING, 0, MAP, 0, 1, -11);
    noCopy("nothing", MAP, 0, NOTHING, 0, 1, -11);
    noCopy("nothing twice", NOTHING, 0, NOTHING, 0, 0, -11);
    noCopy("nothing goes ahead of another kind", NOTHING, 0, DRAWER, 0, 1, -11);
    noCopy("nothing goes ahead of another kind", DRAWER, 0, NOTHING, 0, 1, -11);
    noCopy("nothing goes ahead of no place", NOTHING, -1, MAP, 0, 1, -11);
    noCopy("nothing goes ahead of no place", MAP, 0, NOTHING, 0, -1, -11);
    int[] others = {DRAWER, SHORTS, INTS};
    for (int d : others) {
      noCopy("not of one SORT", d, 0, MAP, 0, 1, -12);
      noCopy("not of one SORT", MAP, 0, d, 0, 1, -12);
      noCopy("not of one SORT, none", MAP, 0, d, 0, 0, -12);
      noCopy("another kind goes ahead of no place", d, -1, MAP, 0, 1, -12);
      noCopy("another kind goes ahead of no place", MAP, 0, d, 100, 1, -12);
      noCopy("another kind goes ahead of n below 0", d, 0, MAP, 0, -1, -12);
    }
    noCopy("shorts to ints", SHORTS, 0, INTS, 0, 1, -12);
    noCopy("DRAWERS twice", DRAWER, 0, DRAWER, 0, 0, -12);
    noCopy("n below 0", MAP, 1, TOO_SHORT, 1, -1, -13);
    noCopy("from -1", MAP, -1, TOO_SHORT, 0, 1, -13);
    noCopy("to -1", MAP, 0, TOO_SHORT, -1, 1, -13);
    noCopy("from behind the last", MAP, 12, TOO_SHORT, 0, 1, -13);
    noCopy("to behind the last", MAP, 0, TOO_SHORT, 11, 1, -13);
    noCopy("the last one of two", MAP, 11, TOO_SHORT, 0, 2, -13);
    noCopy("the last one of twelve", MAP, 0, TOO_SHORT, 0, 12, -13);
    noCopy("on itself", MAP, 0, MAP, 1, 12, -13);
  }

  private static void elements() {
    of(32);
    refused("element, no SHELF", asked -> element(asked, 8, 0), NO_SHELF);
    refused("element, no SHELF", asked -> element(asked, -1, 0), NO_SHELF);
    refused("element, no SHELF goes ahead of no place", asked -> element(asked, 8, -1), NO_SHELF);
    refused("element of nothing", asked -> element(asked, NOTHING, 0), NO_ELEMENT);
    refused("element of a DRAWER", asked -> element(asked, DRAWER, 0), NO_ELEMENT);
    refused("element at -1", asked -> element(asked, SHORTS, -1), NO_ELEMENT);
    refused("element behind the last", asked -> element(asked, SHORTS, 2), NO_ELEMENT);
  }

  // ---- in mind

  private static void mind(int law, String name, Call call) {
    unchanged(Refusals::full, asked -> asked.set(1, law), name + " by LAW " + law, call);
  }

  /** What is asked changes nothing, whatever the LAW. */
  private static void inMind(int law) {
    of(8);
    mind(law, "water", asked -> asked.water(0) + asked.water(1) + asked.water(2));
    of(9);
    mind(law, "hours", asked -> asked.hours(2, 10));
    of(11);
    mind(law, "like", asked -> asked.like(0) + asked.like(1));
    of(13);
    mind(law, "works that go", asked -> asked.put(TOO_SHORT, 1, 4) + asked.put(TOO_SHORT, 1, 3) + asked.works(TOO_SHORT));
    mind(law, "works", asked -> asked.works(MAP));
    of(14);
    mind(law, "dig", asked -> asked.dig(0) + asked.dig(1) + asked.dig(2));
    for (int k = 0; k < DRAWERS; k++) {
      int who = k;
      of(15);
      mind(law, "drawer " + k, asked -> asked.drawer(who, 3));
      of(16);
      mind(law, "draws of " + k, asked -> asked.draws(who, 3));
    }
    of(18);
    mind(law, "still", LandByMap::still);
    of(19);
    mind(law, "rings", LandByMap::rings);
    of(20);
    mind(law, "seeded", asked -> asked.seeded(30, 7, 0) + asked.seeded(1, 5, 1));
    of(21);
    mind(law, "seam", asked -> asked.seam(MAP, MAP, 2, false));
    of(22);
    mind(law, "blot", asked -> asked.blot(2, 10));
    of(23);
    mind(law, "harm", asked -> asked.harm(2, 10));
    of(24);
    mind(law, "chosen", asked -> asked.chosen(0) + asked.chosen(1) + asked.chosen(2));
    of(25);
    mind(law, "judge", asked -> asked.judge(MAP) + asked.judge(INTS));
    of(34);
    mind(law, "price", asked -> asked.price(DRAWER));
    of(35);
    mind(law, "toss", asked -> asked.toss(DRAWER));
  }
}
