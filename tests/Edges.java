import java.util.Arrays;

/**
 * Each sentence of the document that names a boundary case: the least and the greatest number that goes and
 * the next ones that don't, nothing and a full one, what comes first of several. Refusals stand in Refusals.
 */
public final class Edges extends CallTest {
  private static final int LEAST_INT = Integer.MIN_VALUE;
  private static final int MOST_INT = Integer.MAX_VALUE;

  public static void main(String[] args) {
    newObject();
    sides();
    landAnew();
    cellsOfTexts();
    hoursAndLawOfTexts();
    drawersOfTexts();
    wishesOfTexts();
    numbersOfTexts();
    textsThatEnd();
    textsWithWrongBytes();
    textsOfAllSizes();
    kindsOfFaults();
    cells();
    sets();
    says();
    maps();
    rims();
    waysOfWater();
    hauls();
    likes();
    leasts();
    worksSizes();
    worksLost();
    digWholly();
    digByPairs();
    digByNear();
    digLost();
    worths();
    ownDraws();
    allDraws();
    smallDraws();
    copyDraws();
    aheadDraws();
    aheadByLaws();
    toldDraws();
    blotDraws();
    years();
    stills();
    rings();
    seeds();
    seams();
    blots();
    harms();
    choices();
    judges();
    images();
    counts();
    keeps();
    rows();
    lowestBits();
    elements();
    copies();
    prices();
    tosses();
    end("all edges hold");
  }

  // ---- lands

  /** "Three by three, two high, no DRAWERS." and all the "at first". */
  private static void newObject() {
    of(1);
    fresh("");
    for (int c = 0; c < 9; c++) {
      due("HEIGHT", x.cell(c, 0), 2);
      due("HOUSE", x.cell(c, 1), 0);
      due("unsaid", x.cell(c, 2), -4);
      due("WAY", x.cell(c, 3), c == 0 ? 1 : 0);
    }
    due("a tenth CELL", x.cell(9, 0), -1);
    int[] states = {3, 3, 60, 0, 0, 0};
    for (int what = 0; what < 6; what++) {
      due("state(" + what + ")", x.state(what), states[what]);
    }
    due("a DRAWER", x.drawer(0, 0), -1);
    due("like(0)", x.like(0), -4);
    due("least()", x.least(), 0);
    dug(0, 0, 60);
    due("THE IMAGE", x.restore(), -3);
    for (int d = 0; d < 8; d++) {
      due("SHELF " + d, x.price(d), -11);
      due("SHELF " + d, element(d, 0), NO_ELEMENT);
    }
  }

  /** "ROWS, COLUMNS (2 .. 4 each)". */
  private static void sides() {
    of(2);
    for (int r = 0; r <= 9; r++) {
      fresh("");
      for (int c = 0; c <= 9; c++) {
        boolean goes = r >= 2 && r <= 4 && c >= 2 && c <= 4;
        int rows = x.state(0);
        int columns = x.state(1);
        due("s" + r + c, land("s" + r + c + ";"), goes ? 1 : -2000);
        due("ROWS", x.state(0), goes ? r : rows);
        due("COLUMNS", x.state(1), goes ? c : columns);
        due("CELLS", x.count(0), goes ? r * c : rows * columns);
      }
    }
  }

  /** "a LAND anew (HEIGHTS 2, no HOUSES, SPRING 0, THE MAP unsaid; no DRAWERS may have come)". */
  private static void landAnew() {
    of(2);
    fresh("s44;t7;l1;g0 9;g15 0;b0;b15;q15;");
    map(9, 0, 1, 2, 3, 4, 5, 6, 7, 8, 9, 0, 1, 2, 3, 4);
    read("s22;");
    heights("fewer", 2, 2, 2, 2);
    said("fewer", -4, -4, -4, -4);
    due("HOUSES", x.count(2), 0);
    due("SPRING", x.state(5), 0);
    read("s44;");
    heights("all again", 2, 2, 2, 2, 2, 2, 2, 2, 2, 2, 2, 2, 2, 2, 2, 2);
    due("HOUSES", x.count(2), 0);
    due("said", x.count(3), 0);
    due("HOURS stay", x.state(2), 7);
    due("LAW stays", x.state(3), 1);
    due("as many ROWS and COLUMNS", land("g3 9;b3;q3;s44;"), 4);
    due("HEIGHT", x.cell(3, 0), 2);
    due("HOUSE", x.cell(3, 1), 0);
    due("SPRING", x.state(5), 0);
    due("a DRAWER in the same text", land("s33;d00;s33;"), -2008);
    due("ahead of the DRAWER", land("s33;d00;"), 2);
    due("a DRAWER in another text", land("s33;"), -2000);
    due("behind others", land("t1;s22;"), -2003);
    // The IMAGE of a land without DRAWERS brings back that none have come.
    fresh("");
    x.image();
    read("d00;");
    due("with a DRAWER", land("s22;"), -2000);
    x.restore();
    due("without DRAWERS again", land("s22;"), 1);
  }

  /** "g, CELL, a blank, HEIGHT (a digit); b, CELL: a HOUSE; q, CELL: the SPRING", "no such CELL", "a HOUSE twice". */
  private static void cellsOfTexts() {
    of(2);
    int[][] shapes = {{2, 2}, {3, 3}, {2, 4}, {4, 3}, {4, 4}};
    for (int[] shape : shapes) {
      int cells = shape[0] * shape[1];
      fresh("s" + shape[0] + shape[1] + ";");
      due("g0 0", land("g0 0;"), 1);
      due("g0", x.cell(0, 0), 0);
      due("g0 9", land("g0 9;"), 1);
      due("g0", x.cell(0, 0), 9);
      due("g, the last", land("g" + (cells - 1) + " 9;"), 1);
      due("g, the last", x.cell(cells - 1, 0), 9);
      due("g, behind the last", land("g" + cells + " 9;"), -2000);
      due("b, the last", land("b" + (cells - 1) + ";"), 1);
      due("b, the last", x.cell(cells - 1, 1), 1);
      due("b, behind the last", land("b" + cells + ";"), -2000);
      due("q, the last", land("q" + (cells - 1) + ";"), 1);
      due("q, the last", x.state(5), cells - 1);
      due("q, behind the last", land("q" + cells + ";"), -2000);
      due("q0", land("q0;"), 1);
      due("q0", x.state(5), 0);
      due("g999", land("g999 1;"), -2000);
      due("b999", land("b999;"), -2000);
      due("q999", land("q999;"), -2000);
    }
    // A HOUSE at each, at the SPRING too; each HEIGHT may still be told, and the SPRING moved to one.
    fresh("s44;b0;b1;b2;b3;b4;b5;b6;b7;b8;b9;b10;b11;b12;b13;b14;b15;");
    due("HOUSES", x.count(2), 16);
    for (int c = 0; c < 16; c++) {
      due("twice", land("b" + c + ";"), -2000);
    }
    due("a HOUSE does not matter", land("g7 1;q7;"), 2);
    due("HEIGHT", x.cell(7, 0), 1);
    due("twice in one text", land("s44;b7;b8;b7;"), -2010);
  }

  /** "t, HOURS; l, LAW (a digit)". */
  private static void hoursAndLawOfTexts() {
    of(2);
    fresh("");
    int[] hours = {0, 1, 9, 10, 99, 100, 998, 999};
    for (int n : hours) {
      due("t" + n, land("t" + n + ";"), 1);
      due("HOURS", x.state(2), n);
    }
    due("t1000", land("t1000;"), -1004);
    for (int n = 0; n <= 9; n++) {
      due("l" + n, land("l" + n + ";"), n <= 2 ? 1 : -2000);
      due("LAW", x.state(3), Math.min(n, 2));
    }
  }

  /** "DRAWERS 0 .. 5 as they come, of KINDS"; "a FIGURE (0 .. 9)"; "no room". */
  private static void drawersOfTexts() {
    of(2);
    for (int kind = 0; kind <= 9; kind++) {
      for (int figure = 0; figure <= 9; figure += 9) {
        fresh("");
        due("KIND " + kind, land("d" + kind + figure + ";"), kind <= 7 ? 1 : -2000);
        due("DRAWERS", x.count(1), kind <= 7 ? 1 : 0);
        due("KIND", x.drawer(0, 0), kind <= 7 ? kind : -1);
        due("FIGURE", x.drawer(0, 1), kind <= 7 ? figure : -1);
        due("no WISHES yet", x.drawer(0, 2), kind <= 7 ? 0 : -1);
      }
    }
    fresh("");
    due("seven at once", land("d00;d11;d22;d33;d44;d55;d66;"), -2024);
    due("none came", x.count(1), 0);
    due("six", land("d00;d11;d22;d33;d44;d55;"), 6);
    due("a seventh", land("d66;"), -2000);
    due("DRAWERS", x.count(1), 6);
    for (int k = 0; k < 6; k++) {
      due("as they come", x.drawer(k, 0), k);
      due("as they come", x.drawer(k, 1), k);
    }
    due("a seventh one's", x.drawer(6, 0), -1);
    due("five others do not go either", land("l0;d00;"), -2003);
  }

  /** "WISHES (4 at most: a CELL, a HEIGHT, a WORTH 1 .. 99)". */
  private static void wishesOfTexts() {
    of(2);
    fresh("s22;d00;d00;");
    due("CELL 0, HEIGHT 0, WORTH 1", land("w00 01;"), 1);
    due("the last CELL, HEIGHT 9, WORTH 99", land("w03 999;"), 1);
    due("WORTH 0", land("w00 00;"), -2000);
    due("WORTH 100", land("w00 0100;"), -2000);
    due("WORTH 999", land("w00 0999;"), -2000);
    due("behind the last CELL", land("w04 01;"), -2000);
    due("far behind the last CELL", land("w0999 01;"), -2000);
    due("the last DRAWER", land("w13 01;"), 1);
    due("behind the last DRAWER", land("w20 01;"), -2000);
    due("DRAWER 9", land("w90 01;"), -2000);
    due("two", x.drawer(0, 2), 2);
    due("three at once", land("w00 01;w00 01;w00 01;"), -2014);
    due("still two", x.drawer(0, 2), 2);
    due("a third, a fourth", land("w00 01;w00 01;"), 2);
    due("a fifth", land("w00 01;"), -2000);
    due("four", x.drawer(0, 2), 4);
    due("others have room", land("w10 01;w10 01;w10 01;"), 3);
    due("four and four", x.count(5), 8);
    due("a fifth", land("w10 01;"), -2000);
    fresh("s22;g0 5;d00;w00 53;w00 54;w00 610;w00 411;");
    due("all at one CELL", x.drawer(0, 3), 3 + 4 + 0 + 1);
    fresh("d00;d00;d00;d00;d00;d00;");
    for (int k = 0; k < 6; k++) {
      String wish = "w" + k + "8 9" + (90 + k) + ";";
      due("four of " + k, land(wish.repeat(4)), 4);
      due("five of " + k, land(wish), -2000);
    }
    due("WISHES", x.count(5), 24);
    read("g8 9;");
    for (int k = 0; k < 6; k++) {
      due("WORTH", x.drawer(k, 3), 4 * (90 + k));
    }
  }

  /** "CELLS, HOURS, WORTHS have 1 to 3 digits, no 0 ahead of another." */
  private static void numbersOfTexts() {
    of(2);
    String[] heads = {"g", "b", "q", "t", "w0", "w00 1"};
    String[] tails = {" 1;", ";", ";", ";", " 11;", ";"};
    for (int i = 0; i < heads.length; i++) {
      fresh("s44;d00;");
      int at = heads[i].length();
      due(heads[i] + " and no digit", land(heads[i] + tails[i]), -1000 - at);
      due(heads[i] + "00", land(heads[i] + "00" + tails[i]), -1000 - at - 1);
      due(heads[i] + "01", land(heads[i] + "01" + tails[i]), -1000 - at - 1);
      due(heads[i] + "012", land(heads[i] + "012" + tails[i]), -1000 - at - 1);
      due(heads[i] + "1000", land(heads[i] + "1000" + tails[i]), -1000 - at - 3);
      due(heads[i] + "9999", land(heads[i] + "9999" + tails[i]), -1000 - at - 3);
      due(heads[i] + "10", land(heads[i] + "10" + tails[i]), 1);
      due(heads[i] + "4", land(heads[i] + "4" + tails[i]), 1);
      int three = heads[i].equals("t") ? 1 : -2000;
      due(heads[i] + "100", land(heads[i] + "100" + tails[i]), three);
      due(heads[i] + "999", land(heads[i] + "999" + tails[i]), three);
    }
    fresh("d00;");
    due("0 alone", land("g0 1;b0;q0;t0;w00 11;"), 5);
  }

  private static final String[] STATEMENTS = {"s33;", "g8 1;", "b5;", "q7;", "t10;", "l2;", "d19;", "w08 950;"};

  /** "(the size, if it ends too early)". */
  private static void textsThatEnd() {
    of(2);
    String whole = String.join("", STATEMENTS);
    int done = 0;
    for (int n = 0; n <= whole.length(); n++) {
      fresh("");
      String text = whole.substring(0, n);
      done += text.endsWith(";") ? 1 : 0;
      due("land of \"" + text + "\"", land(text), n > 0 && text.endsWith(";") ? done : -1000 - n);
    }
  }

  /** "kind 1 the place of the first byte with which no LAND can go on". */
  private static void textsWithWrongBytes() {
    of(2);
    int[] wrong = {'/', ':', 'x', 'S', ',', '-', '+', 10, 1, 0, -1, -128, 127, -'0'};
    for (String statement : STATEMENTS) {
      String text = "t1;" + statement + "l0;";
      for (int i = 0; i < text.length(); i++) {
        fresh("");
        for (int v : wrong) {
          x.row(0, 0, text.length());
          for (int k = 0; k < text.length(); k++) {
            x.put(0, k, k == i ? v : text.charAt(k));
          }
          due(v + " at " + i + " of " + text, x.land(0), -1000 - i);
        }
      }
    }
    fresh("");
    String[] texts = {"s 33;", "s3 3;", "s33 ;", "g8  1;", "g81;", "g8 1 ;", "b 5;", "l 2;", "d 19;", "d1 9;", "w 08 950;", "w08 9 50;", "w08  950;"};
    int[] places = {1, 2, 3, 3, 3, 4, 1, 1, 1, 2, 1, 5, 4};
    for (int i = 0; i < texts.length; i++) {
      due("blanks in " + texts[i], land(texts[i]), -1000 - places[i]);
    }
    due("a ; alone", land(";"), -1000);
    due("a ; more", land("l0;;"), -1003);
    due("a blank ahead", land(" l0;"), -1000);
    due("a blank behind", land("l0; "), -1003);
    due("a digit more", land("l00;"), -1002);
    due("a digit more", land("s333;"), -1003);
    due("a digit more", land("d100;"), -1003);
    due("a digit more", land("g0 00;"), -1004);
  }

  /** A ROW of 0 and of 100 elements; places up to the last one. */
  private static void textsOfAllSizes() {
    of(2);
    fresh("");
    due("at least one STATEMENT", land(""), -1000);
    due("100 bytes", land("l0;".repeat(32) + "t12;"), 33);
    due("HOURS", x.state(2), 12);
    due("100 bytes, a digit is missing", land("l0;".repeat(33) + "l"), -1100);
    due("100 bytes, the last ; is missing", land("l0;".repeat(32) + "t123"), -1100);
    fresh("");
    due("100 bytes, a blank is missing", land("l0;".repeat(32) + "g123"), -1100);
    due("the last byte", land("l0;".repeat(33) + ";"), -1099);
    due("the last STATEMENT", land("l0;".repeat(32) + "l3;"), -2096);
    fresh("");
    due("99 bytes", land("l1;".repeat(33)), 33);
    due("LAW", x.state(3), 1);
  }

  /** "kind 1 (of any place) goes ahead of kind 2"; "each on what those ahead of it made". */
  private static void kindsOfFaults() {
    of(2);
    fresh("");
    due("kind 2 at 0, kind 1 behind it", land("l9;l1;x"), -1006);
    due("kind 2 at 0, the end too early", land("l9;l1"), -1005);
    due("kind 2 twice", land("l1;l9;s99;"), -2003);
    due("CELLS of the smaller LAND", land("s22;g3 1;g4 1;"), -2009);
    due("CELLS of the larger LAND", land("s44;g15 1;"), 2);
    due("a DRAWER that comes behind", land("w00 11;d00;"), -2000);
    due("a DRAWER that comes ahead", land("d00;w00 11;"), 2);
    due("the letter's place", land("t5;l0;b0;d09;w00 9100;"), -2013);
  }

  /** "cell: -1", "state: -1": CELLS 0 and the last, what 0 .. 3 and 0 .. 5. */
  private static void cells() {
    int[][] shapes = {{2, 2}, {2, 3}, {3, 2}, {3, 4}, {4, 4}};
    for (int[] shape : shapes) {
      int last = shape[0] * shape[1] - 1;
      of(3);
      fresh("s" + shape[0] + shape[1] + ";g" + last + " 0;b" + last + ";q" + last + ";");
      due("says", x.says(last, 0), -4);
      int[] answers = {0, 1, 0, 1};
      for (int what = 0; what < 4; what++) {
        due("the last CELL, what " + what, x.cell(last, what), answers[what]);
        due("behind it, what " + what, x.cell(last + 1, what), -1);
        due("ahead of 0, what " + what, x.cell(-1, what), -1);
        due("far off, what " + what, x.cell(MOST_INT, what) + x.cell(LEAST_INT, what), -2);
      }
      due("what -1, 4", x.cell(0, -1) + x.cell(0, 4), -2);
      due("what far off", x.cell(0, MOST_INT) + x.cell(0, LEAST_INT), -2);
      of(4);
      due("ROWS", x.state(0), shape[0]);
      due("COLUMNS", x.state(1), shape[1]);
      due("SPRING", x.state(5), last);
      due("what -1, 6", x.state(-1) + x.state(6), -2);
      due("what far off", x.state(MOST_INT) + x.state(LEAST_INT), -2);
    }
  }

  /** "HOURS (0 .. 999 a year)", "LAW (0 .. 2)". */
  private static void sets() {
    of(5);
    fresh("");
    int[] hours = {0, 999, 1, 998};
    int was = 60;
    for (int n : hours) {
      due("HOURS", x.set(0, n), was);
      due("HOURS", x.state(2), n);
      was = n;
    }
    int[] none = {-1, 1000, LEAST_INT, MOST_INT};
    for (int n : none) {
      due("HOURS " + n, x.set(0, n), -1);
      due("LAW " + n, x.set(1, n), -1);
    }
    due("LAW", x.set(1, 2), 0);
    due("LAW", x.set(1, 0), 2);
    due("LAW", x.set(1, 1), 0);
    due("LAW 3", x.set(1, 3), -1);
    due("what 2", x.set(2, 0), -1);
    due("what -1", x.set(-1, 0), -1);
    due("HOURS", x.state(2), 998);
    due("LAW", x.state(3), 1);
  }

  /** "THE MAP says a HEIGHT of a CELL (-1: it is unsaid): what it said (-4: unsaid)." */
  private static void says() {
    of(6);
    fresh("s44;");
    due("unsaid twice", x.says(15, -1), -4);
    due("0", x.says(15, 0), -4);
    due("0 is said", x.count(3), 1);
    due("9", x.says(15, 9), 0);
    due("the same", x.says(15, 9), 9);
    due("-2, 10", x.says(15, -2) + x.says(15, 10), -2);
    due("far off", x.says(15, MOST_INT) + x.says(15, LEAST_INT), -2);
    due("99", x.says(15, 99), -1);
    due("-4", x.says(15, -4), -1);
    due("unsaid", x.says(15, -1), 9);
    due("unsaid", x.cell(15, 2), -4);
    due("0 first", x.says(0, 3), -4);
    due("no CELLS", x.says(-1, 3) + x.says(16, 3) + x.says(MOST_INT, -1) + x.says(LEAST_INT, -1), -4);
    due("only 0", x.count(3), 1);
    due("the HEIGHT stays", x.cell(0, 0), 2);
  }

  /** "THE MAP becomes the ROW of HEIGHTS in SHELF d (99: unsaid)"; "-13 (not as many as CELLS, no HEIGHT)". */
  private static void maps() {
    of(7);
    int[] cells = {4, 9, 16};
    String[] lands = {"s22;", "s33;", "s44;"};
    for (int i = 0; i < cells.length; i++) {
      fresh(lands[i]);
      for (int n = 0; n <= 17; n++) {
        x.row(7, 0, n);
        due(n + " elements for " + cells[i], x.map(7), n == cells[i] ? n : -13);
      }
      x.row(7, 0, 100);
      due("100 elements", x.map(7), -13);
    }
    int[] heights = {0, 1, 8, 9};
    for (int h : heights) {
      fresh("s22;");
      row(0, 0, 99, 99, 99, h);
      due("the last is " + h, x.map(0), 1);
      said("map", -4, -4, -4, h);
    }
    int[] none = {-1, 10, 98, 100, -128, 127, -4};
    fresh("s22;");
    for (int h : none) {
      row(7, 0, 1, 1, 1, h);
      due("the last is " + h, x.map(7), -13);
      row(7, 0, h, 1, 1, 1);
      due("the first is " + h, x.map(7), -13);
    }
    due("none said", x.count(3), 0);
    row(7, 0, 9, 9, 9, 9);
    due("all", x.map(7), 4);
    row(7, 0, 99, 99, 99, 99);
    due("none", x.map(7), 0);
    due("the ROW stays", element(7, 3), 99);
  }

  // ---- water, hauls

  private static boolean isInner(int rows, int columns, int c) {
    int r = c / columns;
    return r > 0 && r < rows - 1 && c % columns > 0 && c % columns < columns - 1;
  }

  /** "It is LOST, if it stands at the rim." */
  private static void rims() {
    of(8);
    for (int r = 2; r <= 4; r++) {
      for (int k = 2; k <= 4; k++) {
        fresh("s" + r + k + ";");
        for (int c = 0; c < r * k; c++) {
          read("q" + c + ";");
          due(r + " by " + k + ", stands at " + c, x.water(0), c);
          due(r + " by " + k + ", LOST at " + c, x.water(2), isInner(r, k, c) ? 0 : 1);
        }
      }
    }
    due("what -1, 3", x.water(-1) + x.water(3), -2);
    due("what far off", x.water(MOST_INT) + x.water(LEAST_INT), -2);
  }

  /** "to the CELL beside (up, right, down, left) that is lowest, if that is lower (of several the first of these)". */
  private static void waysOfWater() {
    of(8);
    int[] order = {1, 5, 7, 3};
    for (int first = 0; first < 4; first++) {
      for (int other = first; other < 4; other++) {
        fresh("q4;g4 5;g1 5;g5 5;g7 5;g3 5;g" + order[first] + " 4;g" + order[other] + " 4;");
        due("of " + order[first] + ", " + order[other], x.water(0) == 4 ? 4 : x.cell(order[first], 3), 1);
        if (other > first) {
          due("not " + order[other], x.cell(order[other], 3), 0);
          read("g" + order[other] + " 3;");
          due("the lowest of " + order[first] + ", " + order[other], x.cell(order[other], 3), 1);
          due("not " + order[first], x.cell(order[first], 3), 0);
        }
      }
    }
    // Like HEIGHTS are not lower; the ends of two ROWS are not beside each other.
    fresh("q4;");
    due("like HEIGHTS", x.water(1), 1);
    for (int k = 2; k <= 4; k++) {
      fresh("s3" + k + ";q" + (k - 1) + ";g" + k + " 0;g0 9;g" + (k - 2) + " 9;");
      due("not round to the next ROW", x.water(0), k - 1);
      fresh("s3" + k + ";q" + k + ";g" + (k - 1) + " 1;g" + 0 + " 9;g" + (k + 1) + " 9;");
      due("not round to the ROW ahead", x.water(0), k);
    }
    fresh("s44;q0;g3 0;g12 0;g15 0;");
    due("not round the rim", x.water(0), 0);
    // Not the nearest way down but the lowest each time; it stands in a hole, though lower CELLS are behind.
    fresh("s44;q5;g5 5;g6 3;g9 4;g13 0;g7 4;g2 4;g10 4;g1 5;g4 5;");
    due("stands in a hole", x.water(0), 6);
    due("WAY", x.water(1), 2);
    due("not LOST", x.water(2), 0);
    fresh("s22;g0 9;g1 8;g2 7;g3 6;");
    due("WAY", x.water(1), 3);
    due("stands at", x.water(0), 3);
    due("the SPRING is on it", x.cell(0, 3), 1);
    due("its end is on it", x.cell(3, 3), 1);
    due("the other one is not", x.cell(1, 3), 0);
  }

  /** "from a CELL (of 1 or more) to another one (of 8 or less), neither with a HOUSE". */
  private static void hauls() {
    fresh("s44;g0 1;g1 0;g2 8;g3 9;b15;");
    of(9);
    due("from 1 to 8", x.hours(0, 2), 4 + 7);
    due("from 8 to 1", x.hours(2, 0), 4);
    due("from 9 to 0", x.hours(3, 1), 4);
    due("from 0", x.hours(1, 0), -3);
    due("to 9", x.hours(2, 3), -3);
    due("from 0 to 9", x.hours(1, 3), -3);
    due("from a HOUSE", x.hours(15, 0), -3);
    due("to a HOUSE", x.hours(0, 15), -3);
    due("as high", x.hours(4, 5), 2);
    due("one higher", x.hours(0, 4), 2 + 1);
    due("as far as can be", x.hours(3, 12), 12);
    of(10);
    due("from 1 to 8", x.haul(0, 2), 11);
    due("from", x.cell(0, 0), 0);
    due("to", x.cell(2, 0), 9);
    due("from 0", x.haul(0, 5), -3);
    due("to 9", x.haul(5, 2), -3);
    due("from a HOUSE", x.haul(15, 0), -3);
    due("to a HOUSE", x.haul(5, 15), -3);
    due("all HEIGHTS", x.count(4), 0 + 0 + 9 + 9 + 12 * 2);
    nears();
  }

  /** "NEAR of two CELLS: rows between and columns between." */
  private static void nears() {
    of(9);
    for (int k = 2; k <= 4; k++) {
      fresh("s4" + k + ";");
      for (int a = 0; a < 4 * k; a++) {
        for (int b = 0; b < 4 * k; b++) {
          int near = Math.abs(a / k - b / k) + Math.abs(a % k - b % k);
          due("hours(" + a + ", " + b + ")", x.hours(a, b), a == b ? -1 : 2 * near);
        }
      }
      due("behind the last", x.hours(4 * k, 0) + x.hours(0, 4 * k) + x.haul(4 * k, 0) + x.haul(0, 4 * k), -4);
      due("ahead of 0", x.hours(-1, 0) + x.hours(0, -1) + x.haul(-1, 0) + x.haul(0, -1), -4);
      due("far off", x.hours(MOST_INT, 0) + x.hours(0, LEAST_INT) + x.haul(LEAST_INT, 0) + x.haul(0, MOST_INT), -4);
    }
  }

  /** "The first CELL at which the LAND is not LIKE THE MAP (what 0; -4), OFF (1)." */
  private static void likes() {
    of(11);
    fresh("s44;");
    due("all unsaid", x.like(0), -4);
    due("all unsaid", x.like(1), 0);
    x.says(15, 3);
    due("the last", x.like(0), 15);
    due("one", x.like(1), 1);
    x.says(0, 1);
    due("the first", x.like(0), 0);
    due("two", x.like(1), 2);
    x.says(0, 2);
    x.says(15, 2);
    due("said as it is", x.like(0), -4);
    due("said as it is", x.like(1), 0);
    for (int c = 0; c < 16; c++) {
      read("g" + c + " 9;");
      x.says(c, 0);
    }
    due("all", x.like(0), 0);
    due("all", x.like(1), 144);
    due("what -1, 2", x.like(-1) + x.like(2), -2);
    due("what far off", x.like(MOST_INT) + x.like(LEAST_INT), -2);
  }

  /** "LEAST: ... -4 these are not as many, or a CELL with a HOUSE is off." */
  private static void leasts() {
    of(12);
    fresh("s44;g0 9;g15 0;b5;b6;");
    due("nothing is said", x.least(), 0);
    x.says(0, 0);
    due("nine more too high", x.least(), -4);
    x.says(15, 8);
    due("one more too high", x.least(), -4);
    x.says(15, 9);
    due("as many, as far as can be", x.least(), 9 * 12);
    x.says(1, 3);
    due("one more too low", x.least(), -4);
    x.says(1, -1);
    x.says(5, 2);
    due("a HOUSE as it is said", x.least(), 108);
    x.says(5, 3);
    due("a HOUSE one too low", x.least(), -4);
    x.says(4, 1);
    due("as many, but at a HOUSE", x.least(), -4);
    x.says(5, 1);
    x.says(4, 3);
    due("a HOUSE one too high", x.least(), -4);
    x.says(5, -1);
    x.says(4, -1);
    x.says(6, -1);
    due("HOUSES unsaid", x.least(), 108);
    // Each reckoned as 2 NEAR alone: neither how much higher one is nor HOURS matter.
    fresh("s22;t0;g0 1;g3 8;");
    x.says(0, 0);
    x.says(3, 9);
    due("up the hill", x.least(), 4);
    // All 16 CELLS too high, or too low; then half of them the one, half the other.
    fresh("s44;");
    map(0, 0, 0, 0, 0, 0, 0, 0, 0, 0, 0, 0, 0, 0, 0, 0);
    due("all too high", x.least(), -4);
    dug(32, 0, 60);
    map(9, 9, 9, 9, 9, 9, 9, 9, 9, 9, 9, 9, 9, 9, 9, 9);
    due("all too low", x.least(), -4);
    x.set(1, 1);
    dug(112, 0, 60);
    x.says(0, 0);
    due("one too high", x.least(), -4);
    // Two steps from 0: to 1 and on to 1 again.
    dug(105 + 2 - 4, 2, 56);
    map(1, 3, 1, 3, 3, 1, 3, 1, 1, 3, 1, 3, 3, 1, 3, 1);
    due("each to one beside it", x.least(), 16);
    map(1, 1, 3, 3, 1, 1, 3, 3, 1, 1, 3, 3, 1, 1, 3, 3);
    due("each two COLUMNS on", x.least(), 32);
    map(0, 0, 0, 0, 2, 2, 2, 2, 2, 2, 2, 2, 4, 4, 4, 4);
    due("each three ROWS on, twice", x.least(), 48);
  }

  private static void toAndFro(int hauls) {
    x.row(6, 0, 2 * hauls);
    for (int i = 0; i < hauls; i++) {
      x.put(6, 2 * i, i % 2);
      x.put(6, 2 * i + 1, 1 - i % 2);
    }
  }

  /** "the size, if its size is odd and all ahead went"; "HOURS of a year are overdone". */
  private static void worksSizes() {
    of(13);
    fresh("s22;");
    x.row(6, 0, 0);
    due("a ROW of 0", x.works(6), -4);
    x.row(6, 0, 1);
    due("a ROW of 1", x.works(6), 1);
    x.put(6, 0, -1);
    due("a ROW of 1, no CELL", x.works(6), 1);
    // Each haul takes 2 HOURS, since it goes level or down.
    toAndFro(50);
    x.set(0, 100);
    due("a ROW of 100", x.works(6), -4);
    x.set(0, 99);
    due("one HOUR too many", x.works(6), 98);
    x.set(0, 2);
    due("the second", x.works(6), 2);
    x.set(0, 1);
    due("the first", x.works(6), 0);
    x.set(0, 0);
    due("no HOURS", x.works(6), 0);
    x.set(0, 100);
    x.put(6, 98, 2);
    x.put(6, 99, 2);
    due("the last can't be", x.works(6), 98);
    x.put(6, 99, 4);
    due("no CELL", x.works(6), 98);
    x.put(6, 99, 3);
    due("the last goes", x.works(6), -4);
    x.put(6, 98, 4);
    due("from no CELL", x.works(6), 98);
    x.row(6, 0, 99);
    for (int i = 0; i < 98; i++) {
      x.put(6, i, (i + 1) / 2 % 2);
    }
    x.put(6, 98, 100);
    due("a ROW of 99", x.works(6), 99);
    x.set(0, 97);
    due("odd, but too many HOURS", x.works(6), 96);
    due("in mind", x.cell(0, 0), 2);
    row(6, 0, 200, 0);
    due("a byte below 0", x.works(6), 0);
    worksHeights();
  }

  /** Of WORKS each HAUL is on what those ahead of it made. */
  private static void worksHeights() {
    fresh("s22;g0 1;g1 8;g3 0;");
    row(6, 0, 0, 2, 0, 2);
    due("none left for the second", x.works(6), 2);
    row(6, 0, 2, 1, 2, 1);
    due("no room for the second", x.works(6), 2);
    row(6, 0, 1, 3, 3, 1, 3, 1);
    due("none left for the third", x.works(6), 4);
    row(6, 0, 2, 3, 3, 2);
    // 2, then 2 (1 down onto 1: level).
    x.set(0, 4);
    due("level", x.works(6), -4);
    row(6, 0, 0, 3, 3, 1);
    // 4 for the first; then 2 and 7 up.
    x.set(0, 13);
    due("up", x.works(6), -4);
    x.set(0, 12);
    due("up, one HOUR too many", x.works(6), 2);
    read("b2;");
    row(6, 0, 0, 3, 0, 2);
    due("a HOUSE", x.works(6), 2);
    row(6, 0, 2, 3);
    due("a HOUSE", x.works(6), 0);
  }

  /** "behind which WATER is not LOST though it was at first". */
  private static void worksLost() {
    of(13);
    fresh("q1;g1 3;g0 1;g4 3;");
    due("LOST at first", x.water(2), 1);
    // Two lower 4 is as low as 0, and WATER goes down ahead of left.
    row(6, 0, 4, 8, 4, 8, 8, 4);
    due("behind the second", x.works(6), 2);
    row(6, 0, 4, 8, 8, 4, 4, 8);
    due("never", x.works(6), -4);
    // Not LOST at first: then it may be LOST, by 1 that is lower, and not LOST again.
    fresh("q4;g4 1;");
    due("not LOST at first", x.water(2), 0);
    row(6, 0, 0, 4, 1, 4, 4, 8, 4, 8);
    due("not at first", x.works(6), -4);
    x.haul(0, 4);
    x.haul(1, 4);
    due("LOST at first", x.water(2), 1);
    row(6, 0, 4, 8, 4, 8);
    due("at first", x.works(6), 2);
  }

  /** "0: wholly, if LEAST is HOURS or less, else (also if there is none) not at all." */
  private static void digWholly() {
    of(14);
    fresh("s22;");
    map(0, 4, 2, 2);
    x.set(0, 4);
    dug(0, 2, 0);
    x.set(0, 3);
    dug(4, 0, 3);
    x.set(0, 5);
    dug(0, 2, 1);
    x.set(0, 999);
    dug(0, 2, 995);
    x.says(1, 3);
    dug(3, 0, 999);
    x.says(0, 1);
    read("b0;");
    dug(2, 0, 999);
    x.says(0, 2);
    x.says(1, 2);
    x.set(0, 0);
    dug(0, 0, 0);
    due("what -1, 3", x.dig(-1) + x.dig(3), -2);
    due("what far off", x.dig(MOST_INT) + x.dig(LEAST_INT), -2);
    fresh("s44;t999;");
    for (int c = 0; c < 16; c++) {
      read("g" + c + (c < 8 ? " 9;" : " 0;"));
      x.says(c, c < 8 ? 0 : 9);
    }
    // 72 steps, each two ROWS on.
    dug(0, 72, 999 - 288);
    due("in mind", x.like(1), 144);
  }

  /** "1: ... again and again that with the least NEAR ...: a step is hauled, while its 2 NEAR still are left". */
  private static void digByPairs() {
    of(14);
    fresh("s22;l1;");
    map(0, 4, 2, 2);
    int[] hours = {0, 1, 2, 3, 4, 5};
    for (int n : hours) {
      x.set(0, n);
      dug(4 - 2 * Math.min(2, n / 2), Math.min(2, n / 2), n - 2 * Math.min(2, n / 2));
    }
    // The nearest takes all but 3 HOURS; 4 for the other one are not left.
    map(0, 3, 2, 3);
    x.set(0, 5);
    dug(2, 1, 3);
    x.set(0, 6);
    dug(0, 2, 0);
    // Too many too high, too many too low: what can be is done.
    map(0, 3, 99, 99);
    x.set(0, 60);
    dug(1, 1, 58);
    map(1, 4, 99, 99);
    dug(1, 1, 58);
    map(1, 1, 1, 1);
    dug(4, 0, 60);
    map(3, 3, 3, 3);
    dug(4, 0, 60);
    // A HOUSE at either: the other pairs go.
    read("b0;");
    map(1, 3, 1, 2);
    dug(1, 1, 56);
    map(3, 3, 1, 2);
    dug(1, 1, 56);
    // By the one too high first, then by the other, not by how far off they are.
    fresh("s22;l1;t2;g0 9;d50;");
    map(0, 3, 1, 3);
    x.year();
    heights("of like NEAR the first too high, then the first too low", 8, 3, 2, 2);
    map(0, 3, 1, 3);
    x.year();
    heights("the next time 2 to 3", 8, 3, 1, 3);
  }

  /** From 0 to CELLS that are 1, 2 .. 6 off: by LAW 1 as many as HOURS go for, by LAW 0 all or none. */
  private static void digByNear() {
    of(14);
    fresh("s44;g0 9;");
    map(3, 3, 3, 3, 99, 99, 99, 3, 99, 99, 99, 3, 99, 99, 99, 3);
    due("LEAST", x.least(), 42);
    for (int n = 0; n <= 44; n++) {
      x.set(0, n);
      x.set(1, 1);
      int steps = 0;
      int left = n;
      while (steps < 6 && left >= 2 * (steps + 1)) {
        steps++;
        left -= 2 * steps;
      }
      dug(12 - 2 * steps, steps, left);
      x.set(1, 0);
      dug(n < 42 ? 12 : 0, n < 42 ? 0 : 6, n < 42 ? n : n - 42);
    }
  }

  /** "2: ... a step after which it isn't is undone (its HOURS, too), and that pair is not tried again." */
  private static void digLost() {
    of(14);
    // The WATER of 1 goes to 0; 4 takes it when it is two lower.
    String land = "q1;g1 3;g0 1;g4 3;l2;d50;";
    fresh(land);
    due("LOST", x.water(2), 1);
    map(99, 99, 99, 99, 1, 99, 99, 4, 99);
    dug(2, 1, 58);
    map(99, 99, 99, 99, 1, 99, 99, 3, 3);
    dug(2, 1, 58);
    // 4 to 7 goes once and is undone the second time; then 8 to 7 goes with its HOURS.
    map(99, 99, 99, 99, 1, 99, 99, 4, 1);
    dug(1, 2, 56);
    x.set(0, 4);
    dug(1, 2, 0);
    x.set(0, 3);
    dug(3, 1, 1);
    x.set(0, 4);
    x.year();
    heights("4 only one lower", 1, 3, 2, 2, 2, 2, 2, 4, 1);
    // By LAW 1 that second step goes too.
    fresh(land);
    x.set(1, 1);
    map(99, 99, 99, 99, 1, 99, 99, 4, 1);
    x.year();
    heights("4 two lower", 1, 3, 2, 2, 1, 2, 2, 4, 2);
    // 4 to 7 goes, 4 to 8 is undone, 6 to 8 goes with its HOURS.
    fresh(land);
    map(99, 99, 99, 99, 1, 99, 1, 3, 4);
    dug(2, 2, 54);
    x.set(0, 6);
    dug(2, 2, 0);
    x.set(0, 5);
    dug(4, 1, 3);
    digNotLost();
  }

  /** WATER that was not LOST need not become so, nor stay so. */
  private static void digNotLost() {
    fresh("q4;g4 2;l2;");
    due("not LOST", x.water(2), 0);
    map(99, 99, 99, 99, 4, 99, 99, 1, 1);
    dug(0, 2, 60 - 2 - 4);
    // 1 to 0 makes it LOST, 4 to 8 keeps it from that again: it was not LOST at first.
    fresh("q4;l2;");
    due("not LOST", x.water(2), 0);
    map(3, 1, 99, 99, 1, 99, 99, 99, 3);
    dug(0, 2, 60 - 2 - 4);
  }

  // ---- drawers, years

  /** "of each WISH its WORTH less 10 times how far that CELL is off, 0 at least, together". */
  private static void worths() {
    of(15);
    fresh("s22;g0 5;d00;d00;w00 799;w00 821;w01 010;");
    due("99 less 20, 21 less 30 is 0, 10 less 20 is 0", x.drawer(0, 3), 79);
    read("g1 1;");
    due("10 less 10 is 0", x.drawer(0, 3), 79);
    read("g1 0;");
    due("10", x.drawer(0, 3), 89);
    read("g0 6;");
    due("21 less 20", x.drawer(0, 3), 89 + 10 + 1);
    read("g0 9;");
    due("beyond it", x.drawer(0, 3), 79 + 11 + 10);
    due("no WISHES", x.drawer(1, 2), 0);
    due("no WISHES", x.drawer(1, 3), 0);
    read("w02 21;");
    due("four WISHES", x.drawer(0, 2), 4);
    due("WORTH 1", x.drawer(0, 3), 101);
    fresh("s22;g0 9;d00;w00 999;w00 999;w00 999;w00 999;");
    due("as much as can be", x.drawer(0, 3), 396);
    read("g0 0;");
    due("99 less 90, four times", x.drawer(0, 3), 36);
    due("what -1, 4", x.drawer(0, -1) + x.drawer(0, 4), -2);
    due("what far off", x.drawer(0, MOST_INT) + x.drawer(0, LEAST_INT), -2);
    fresh("");
    due("no DRAWERS", x.drawer(0, 0) + x.drawer(-1, 0) + x.draws(0, 0), -3);
    fresh("d01;d02;d03;d04;d05;d06;");
    due("the last of six", x.drawer(5, 1), 6);
    due("none is behind it", x.drawer(6, 1) + x.draws(6, 0), -2);
    due("far off", x.drawer(MOST_INT, 1) + x.drawer(LEAST_INT, 1) + x.draws(MOST_INT, 0) + x.draws(LEAST_INT, 0), -4);
  }

  /** "the most WORTH to itself (of like ones the LAND as it is first, then by the CELL it is taken from, then to)". */
  private static void ownDraws() {
    of(16);
    fresh("s22;d10;");
    drawn(0, 2, 2, 2, 2);
    due("no CELL", x.draws(0, 4) + x.draws(0, -1) + x.draws(0, MOST_INT) + x.draws(0, LEAST_INT), -4);
    // To make 3 of 3, taken from 0 or 1 or 2: the first. Of 0, 1, 2 to 3 with 2 wished as it is: 0.
    fresh("s22;d10;w03 350;w00 250;");
    drawn(0, 2, 1, 2, 3);
    read("w01 250;w02 250;");
    drawn(0, 2, 2, 2, 2);
    // 10 more at 3 for 10 less at another one: the LAND as it is goes first.
    fresh("s22;d10;w03 350;w00 250;w01 250;w02 251;");
    drawn(0, 2, 2, 2, 2);
    fresh("s22;d10;w03 350;w00 250;w01 250;w02 29;");
    drawn(0, 2, 2, 1, 3);
    // From 0: to the first of those that are worth alike.
    fresh("s22;d10;w02 350;w03 350;");
    drawn(0, 1, 2, 3, 2);
    // By the CELL it is taken from first: 0 to 3 goes ahead of 1 to 2.
    fresh("s22;d10;w03 350;w02 350;w02 150;");
    drawn(0, 1, 2, 2, 3);
    // A WORTH of 1 more or less.
    fresh("s22;d10;w01 39;w02 310;");
    drawn(0, 1, 2, 3, 2);
    fresh("s22;d10;w00 21;w03 310;");
    drawn(0, 2, 1, 2, 3);
    // From CELLS of 1 or more, to those of 8 or less, none with a HOUSE.
    fresh("s22;g0 0;g1 1;g2 9;g3 8;d10;w03 950;");
    drawn(0, 0, 0, 9, 9);
    fresh("s22;g0 0;g1 0;g2 0;g3 8;d10;w03 950;");
    drawn(0, 0, 0, 0, 8);
    fresh("s22;b0;b1;d10;w03 350;");
    drawn(0, 2, 2, 1, 3);
    read("b2;");
    drawn(0, 2, 2, 2, 2);
    // HOURS do not matter to what it draws.
    fresh("s44;t0;d10;w015 999;");
    drawn(0, 1, 2, 2, 2, 2, 2, 2, 2, 2, 2, 2, 2, 2, 2, 2, 3);
  }

  /** "ALL likewise by the WORTHS to all DRAWERS together." */
  private static void allDraws() {
    of(16);
    fresh("s22;d20;");
    drawn(0, 2, 2, 2, 2);
    fresh("s22;d00;d20;d00;w01 350;w22 350;w10 250;");
    // 10 more at 1 or at 2; 0 and 2 would lose 10, so it is taken from 3.
    drawn(1, 2, 3, 2, 1);
    fresh("s22;d20;d50;d00;d10;d30;d40;w53 350;w50 350;w40 250;");
    // At 0 one gains 10 and another loses 10; at 3 one gains 10; from 0 both would lose.
    drawn(0, 2, 1, 2, 3);
  }

  /** "SMALL likewise by WORTH to itself less the HAUL's HOURS." */
  private static void smallDraws() {
    of(16);
    // 10 to gain: a haul of 8 HOURS goes, one of 10 is like the LAND as it is.
    fresh("s44;d30;w015 399;b1;b2;b3;b4;b5;b6;b7;b8;b9;b10;b11;b14;b13;");
    drawn(0, 2, 2, 2, 2, 2, 2, 2, 2, 2, 2, 2, 2, 1, 2, 2, 3);
    read("b12;");
    // From 0 it is 12 HOURS.
    drawn(0, 2, 2, 2, 2, 2, 2, 2, 2, 2, 2, 2, 2, 2, 2, 2, 2);
    // Of 6 HOURS: a WISH that gains 6 is like the LAND as it is, one that gains 7 is not.
    fresh("s24;b1;b2;b4;b5;b6;b7;d30;w03 36;");
    drawn(0, 2, 2, 2, 2, 2, 2, 2, 2);
    fresh("s24;b1;b2;b4;b5;b6;b7;d30;w03 37;");
    drawn(0, 1, 2, 2, 3, 2, 2, 2, 2);
    // Of like ones the first it is taken from: 0 and 5 are beside 1, so is 2.
    fresh("s24;d30;w01 350;");
    drawn(0, 1, 3, 2, 2, 2, 2, 2, 2);
    // How much higher counts: 0 is 2 lower than 1, 2 is 1 lower, 5 is as high.
    fresh("s24;g1 4;g2 3;g5 4;d30;w01 550;");
    drawn(0, 2, 5, 3, 2, 2, 3, 2, 2);
    // To the first of several.
    fresh("s22;b2;d30;w01 350;w02 350;w03 350;b3;");
    drawn(0, 1, 3, 2, 2);
  }

  /** "COPY as a SMALL, but by HAULS with NEAR at most FIGURE alone." */
  private static void copyDraws() {
    of(16);
    // HOUSES at all but 0 and one to which it can give: 6, 3 and 1 off.
    int[] tos = {15, 12, 1};
    int[] nears = {6, 3, 1};
    for (int i = 0; i < 3; i++) {
      StringBuilder houses = new StringBuilder("s44;");
      for (int c = 1; c < 16; c++) {
        houses.append(c == tos[i] ? "" : "b" + c + ";");
      }
      for (int figure = 0; figure <= 9; figure++) {
        String wish = "w0" + tos[i] + " 399;";
        fresh(houses + "d7" + figure + ";" + wish + wish);
        due("COPY " + figure + " to " + tos[i], x.draws(0, tos[i]), figure >= nears[i] ? 3 : 2);
      }
      fresh(houses + "d79;w0" + tos[i] + " 399;");
      due("charged as a SMALL, to " + tos[i], x.draws(0, tos[i]), 10 > 2 * nears[i] ? 3 : 2);
    }
    fresh("s22;d70;w00 399;");
    drawn(0, 2, 2, 2, 2);
  }

  /** "AHEAD likewise by WORTH to itself of the LAND that comes, if the next DRAWER (by numbers, gone round) draws by OWN". */
  private static void aheadDraws() {
    of(16);
    fresh("s22;d40;");
    drawn(0, 2, 2, 2, 2);
    // The next one does nothing: as an OWN.
    fresh("s22;d40;d10;w03 350;");
    drawn(0, 1, 2, 2, 3);
    // The last one's next is 0, not 1 and not itself.
    for (int many = 2; many <= 6; many++) {
      int last = many - 1;
      fresh("s22;" + "d00;".repeat(last) + "d40;w02 399;w" + last + "0 250;");
      // 0 takes from CELL 0 for its 2: one more at 0 makes it up; 1 gives it.
      drawn(last, 3, 1, 2, 2);
      fresh("s22;" + "d00;".repeat(last) + "d40;w" + last + "0 250;w" + last + "2 399;");
      // Nobody takes from 0: 2 gets its step from 1.
      drawn(last, 2, 1, 3, 2);
    }
    // Next by numbers, not by the YEAR.
    fresh("s22;d00;d40;d00;w22 399;w10 250;");
    drawn(1, 3, 1, 2, 2);
    x.year();
    due("YEAR", x.state(4), 1);
    drawn(1, 3, 1, 2, 2);
  }

  /** "... draws by OWN on it, and that is dug": by the LAW, with all HOURS. */
  private static void aheadByLaws() {
    of(16);
    for (int law = 0; law <= 2; law++) {
      fresh("s22;l" + law + ";d40;d00;w12 399;w00 250;");
      drawn(0, 3, 1, 2, 2);
      x.set(0, 2);
      drawn(0, 3, 1, 2, 2);
      x.set(0, 1);
      // The next one's step is not dug: the LAND as it is is best.
      drawn(0, 2, 2, 2, 2);
      x.set(0, 0);
      drawn(0, 2, 2, 2, 2);
    }
    // A far one: 0 to 3 is 4 HOURS.
    fresh("s22;t4;d40;d00;w13 399;w00 250;");
    drawn(0, 3, 1, 2, 2);
    x.set(0, 3);
    drawn(0, 2, 2, 2, 2);
  }

  /** "TOLD: THE MAP as it is said now (unsaid: as the LAND is)." */
  private static void toldDraws() {
    of(16);
    fresh("s22;d50;g0 0;g3 9;");
    drawn(0, 0, 2, 2, 9);
    map(9, 99, 0, 99);
    drawn(0, 9, 2, 0, 9);
    x.haul(1, 0);
    drawn(0, 9, 1, 0, 9);
    due("it stays as it is said", x.count(3), 2);
    x.year();
    due("then it is said wholly", x.count(3), 4);
  }

  /** "BLOT: that, the CELL of the number FIGURE one lower (0 at least), if there is such a CELL." */
  private static void blotDraws() {
    of(16);
    for (int figure = 0; figure <= 9; figure++) {
      fresh("s22;d6" + figure + ";");
      for (int c = 0; c < 4; c++) {
        due("BLOT " + figure + " of 4", x.draws(0, c), c == figure ? 1 : 2);
      }
      fresh("d6" + figure + ";");
      for (int c = 0; c < 9; c++) {
        due("BLOT " + figure + " of 9", x.draws(0, c), c == figure ? 1 : 2);
      }
    }
    fresh("s44;d69;");
    due("BLOT 9 of 16", x.draws(0, 9), 1);
    fresh("s22;d63;g3 1;");
    due("of 1", x.draws(0, 3), 0);
    read("g3 0;");
    due("of 0", x.draws(0, 3), 0);
    x.says(3, 9);
    due("of what is said", x.draws(0, 3), 8);
    x.says(3, 0);
    due("of 0 that is said", x.draws(0, 3), 0);
    read("g3 9;");
    due("of 0 that is said", x.draws(0, 3), 0);
    read("b3;");
    x.says(3, -1);
    due("a HOUSE does not matter", x.draws(0, 3), 8);
  }

  /** "the DRAWER of the number YEAR modulo how many there are draws, its MAP becomes THE MAP ...; YEAR is one more". */
  private static void years() {
    of(17);
    fresh("");
    due("no DRAWERS", x.year(), -3);
    fresh("d00;");
    due("one DRAWER", x.year(), 0);
    due("YEAR", x.state(4), 1);
    due("all is said", x.count(3), 9);
    // Six: each lifts a CELL of its own, by a step that only it draws.
    fresh("s44;d10;d10;d10;d10;d10;d10;w010 999;w111 999;w212 999;w313 999;w414 999;w515 999;");
    for (int y = 0; y < 13; y++) {
      int[] was = new int[6];
      for (int k = 0; k < 6; k++) {
        was[k] = x.cell(10 + k, 0);
      }
      due("YEAR " + y, x.year(), 2);
      for (int k = 0; k < 6; k++) {
        due("YEAR " + y + ", CELL " + (10 + k), x.cell(10 + k, 0), was[k] + (k == y % 6 ? 1 : 0));
      }
      due("YEAR", x.state(4), y + 1);
    }
    // HOURS are a YEAR's: those that were spent are there again.
    fresh("s22;t4;d10;w03 999;g0 9;");
    due("4 HOURS", x.year(), 2);
    due("4 HOURS again", x.year(), 2);
    x.set(0, 3);
    due("one too few", x.year(), 0);
    due("HOURS", x.state(2), 3);
    due("YEAR", x.state(4), 3);
    due("its MAP is THE MAP", x.cell(3, 2), 5);
    due("the LAND isn't", x.cell(3, 0), 4);
  }

  /** A LAND on which the last of some DRAWERS has as many steps to do. */
  private static void steps(int drawers, int steps) {
    StringBuilder text = new StringBuilder("s44;");
    text.append("d00;".repeat(drawers - 1)).append("d10;");
    int left = steps;
    for (int c = 12; c < 16 && left > 0; c++) {
      int many = Math.min(9, left);
      left -= many;
      text.append("g").append(c).append(" ").append(9 - many).append(";");
      text.append("w").append(drawers - 1).append(c).append(" 999;");
    }
    text.append("g0 9;g1 9;");
    fresh(text.toString());
  }

  /** "(in mind, 60 in all at most)": n YEARS and as many as there are DRAWERS. */
  private static void stills() {
    of(18);
    fresh("");
    due("no DRAWERS", x.still(), -3);
    for (int many = 2; many <= 6; many++) {
      int most = 60 / many - 1;
      steps(many, most);
      due(many + " DRAWERS, " + most + " steps", x.still(), most * many);
      steps(many, most + 1);
      due(many + " DRAWERS, a step more", x.still(), -4);
      // A YEAR later the same comes a YEAR sooner, and there is one YEAR less to be looked at.
      x.year();
      due(many + " DRAWERS, a YEAR later", x.still(), (most + 1) * many - 1 + many <= 60 ? (most + 1) * many - 1 : -4);
      due("in mind", x.state(4), 1);
    }
    steps(1, 0);
    due("at once", x.still(), 0);
    steps(1, 1);
    due("behind one", x.still(), 1);
    steps(1, 36);
    due("behind 36", x.still(), 36);
    // 60 / 5: 11 steps and 5 are 60; four YEARS on, 12 steps end behind 56, and 5 are one too many.
    steps(5, 12);
    for (int y = 0; y < 4; y++) {
      x.year();
    }
    due("56 and 5", x.still(), -4);
    x.year();
    due("55 and 5", x.still(), 55);
  }

  /** "the least n (1 .. 30) so that behind 60 and n YEARS the LAND is as behind 60; -4". */
  private static void rings() {
    of(19);
    fresh("");
    due("no DRAWERS", x.rings(), -3);
    fresh("d00;");
    due("1", x.rings(), 1);
    // Two who pull: each undoes the other's step.
    fresh("s22;d10;d10;w00 350;w10 250;");
    due("2", x.rings(), 2);
    // Six, of whom two pull: behind 60 YEARS the first comes, and the last undoes it.
    fresh("s22;d10;d00;d00;d00;d00;d10;w00 350;w50 250;");
    due("6", x.rings(), 6);
    // The last step of ten falls on the YEAR 60, that of eleven five YEARS later on the YEAR 61.
    steps(6, 10);
    due("the YEAR 60 is behind it", x.rings(), 1);
    steps(6, 11);
    for (int y = 0; y < 5; y++) {
      due("no step yet", x.year(), 0);
    }
    due("the YEAR 61 changes it for ever", x.rings(), -4);
    // Found by trying: the HEIGHTS come again behind 30 and behind 31 YEARS.
    fresh("s43;t9;g0 6;g4 8;g10 4;d30;d10;d40;w011 269;w01 692;w011 599;w111 679;w110 964;w20 160;w211 191;");
    due("30", x.rings(), 30);
    due("in mind", x.state(4), 0);
    fresh("g3 0;g5 6;d30;d40;d30;w01 487;w03 046;w00 186;w07 226;w13 476;w10 399;w21 636;w27 791;w25 528;");
    due("31", x.rings(), -4);
  }

  /** "n YEARS (1 .. 30) from a seed z (in mind): each by a DRAWER that is a DRAW below how many there are". */
  private static void seeds() {
    of(20);
    steps(1, 36);
    int[] seeds = {0, 1, -1, LEAST_INT, MOST_INT, 12345};
    for (int z : seeds) {
      due("1 YEAR", x.seeded(1, z, 1), 1);
      due("1 YEAR", x.seeded(1, z, 0), 2);
      due("30 YEARS", x.seeded(30, z, 1), 30);
    }
    due("0, 31", x.seeded(0, 1, 0) + x.seeded(31, 1, 0), -2);
    due("-1", x.seeded(-1, 1, 0), -1);
    due("far off", x.seeded(MOST_INT, 1, 0) + x.seeded(LEAST_INT, 1, 0), -2);
    due("what -1, 2", x.seeded(1, 1, -1) + x.seeded(1, 1, 2), -2);
    due("what far off", x.seeded(1, 1, MOST_INT) + x.seeded(1, 1, LEAST_INT), -2);
    due("in mind", x.state(4), 0);
    due("in mind", x.count(3), 0);
    drawsOfSeeds();
  }

  /** "z becomes z times 1103515245 plus 12345 (an int); a DRAW below n is (z without its sign's bit over 65536, cut) modulo n". */
  private static void drawsOfSeeds() {
    // Each of six has 1 to 6 steps that change the LAND and lies still then: how many YEARS changed it tells who drew.
    fresh("s44;d10;d10;d10;d10;d10;d10;w010 399;w111 499;w212 599;w313 699;w414 799;w515 899;g0 9;g1 9;g2 9;");
    int[] seeds = {0, 1, 2, 3, -1, -2, 99, LEAST_INT, MOST_INT, 1 << 30, 65536, 123456789, -987654321};
    for (int z : seeds) {
      int[] done = new int[6];
      int changed = 0;
      int seed = z;
      for (int n = 1; n <= 30; n++) {
        seed = seed * 1103515245 + 12345;
        long drawn = seed < 0 ? seed + 2147483648L : seed;
        int who = (int) (drawn / 65536 % 6);
        if (done[who] <= who) {
          done[who]++;
          changed++;
        }
        if (n == 1 || n == 2 || n == 7 || n == 30) {
          due(n + " YEARS of seed " + z + ", changed", x.seeded(n, z, 1), changed);
          due(n + " YEARS of seed " + z + ", OFF", x.seeded(n, z, 0), 2 * changed);
        }
      }
    }
  }

  // ---- sheets, blots, who is chosen

  /** "COLUMNS below a told one from the first, the others from the second: ... said in both and more than 2 apart". */
  private static void seams() {
    of(21);
    for (int k = 2; k <= 4; k++) {
      fresh("s4" + k + ";");
      int[] left = new int[4 * k];
      int[] right = new int[4 * k];
      Arrays.fill(left, 1);
      Arrays.fill(right, 4);
      row(1, 0, left);
      row(2, 0, right);
      for (int column = -1; column <= 5; column++) {
        boolean goes = column >= 1 && column < k;
        due("COLUMN " + column + " of " + k, x.seam(1, 2, column, true), goes ? 4 : -1);
        for (int c = 0; goes && c < 4 * k; c++) {
          due("joined at " + column, x.cell(c, 2), c % k < column ? 1 : 4);
        }
      }
      due("COLUMNS far off", x.seam(1, 2, MOST_INT, true) + x.seam(1, 2, LEAST_INT, true), -2);
    }
    fresh("s22;");
    int[][] across = {{0, 2, 0}, {2, 0, 0}, {0, 3, 1}, {3, 0, 1}, {0, 9, 1}, {9, 0, 1}, {5, 5, 0}, {99, 0, 0}, {0, 99, 0}, {99, 99, 0}, {9, 99, 0}};
    for (int[] pair : across) {
      row(1, 0, pair[0], 0, 0, 0);
      row(2, 0, 9, pair[1], 9, 0);
      due(pair[0] + " beside " + pair[1], x.seam(1, 2, 1, false), pair[2]);
    }
    due("not joined", x.count(3), 0);
    due("joined", x.seam(1, 2, 1, true), 0);
    said("joined", 9, -4, 0, 0);
    heights("the LAND stays", 2, 2, 2, 2);
    row(1, 0, 99, 9, 99, 9);
    row(2, 0, 9, 99, 9, 99);
    due("all unsaid", x.seam(1, 2, 1, true), 0);
    due("all unsaid", x.count(3), 0);
  }

  /** "COST of a BLOT: LEAST of THE MAP with a CELL one higher and another one one lower, less LEAST of THE MAP". */
  private static void blots() {
    of(22);
    fresh("s44;g0 8;g1 9;g14 1;g15 0;");
    due("8 one higher, 1 one lower", x.blot(0, 14), 2 * 5);
    due("9 one higher", x.blot(1, 14), -1000000003);
    due("0 one lower", x.blot(0, 15), -1000000003);
    due("both", x.blot(1, 15), -1000000003);
    x.says(0, 9);
    due("8, but 9 is said", x.blot(0, 14), -1000000003);
    x.says(1, 8);
    due("9, but 8 is said", x.blot(1, 14), 2 * 5 - 2);
    x.says(14, 0);
    due("1, but 0 is said", x.blot(2, 14), -1000000003);
    x.says(15, 1);
    // 1 to 0 and 14 to 15 before; then 14 must go to 2.
    due("0, but 1 is said", x.blot(2, 15), 2 + 2 * 3 - 2 - 2);
    due("may be below 0", x.blot(1, 0), -2);
    due("two unsaid CELLS", x.blot(2, 3), 2);
    due("no CELLS", x.blot(-1, 0) + 1000000001 + x.blot(0, 16) + 1000000001, 0);
    due("far off", x.blot(MOST_INT, 0) + 1000000001 + x.blot(0, LEAST_INT) + 1000000001, 0);
    // No LEAST before, one then; one before, none then; none either.
    fresh("s22;b3;");
    x.says(0, 3);
    due("none before, none then", x.blot(1, 2), -1000000004);
    due("none before", x.blot(1, 0), -1000000004);
    x.says(0, 2);
    due("none then", x.blot(3, 0), -1000000004);
    due("none then", x.blot(0, 3), -1000000004);
    due("both", x.blot(0, 1), 2);
    due("in mind", x.cell(0, 2), 2);
    due("in mind", x.cell(1, 2), -4);
  }

  /** "HARM of a HAUL: WORTH to all DRAWERS now less that behind it." */
  private static void harms() {
    of(23);
    fresh("s22;g0 1;g1 0;g2 8;g3 9;d00;d00;w00 150;w10 130;w12 999;");
    // 0 goes to 0: 10 less twice; 2 comes to 9: 10 more.
    due("from 1 to 8", x.harm(0, 2), 10);
    due("from 8 to 1", x.harm(2, 0), 10 + 10 + 10);
    due("from 9 to 0", x.harm(3, 1), 0);
    due("from 3 to 2: below 0", x.harm(3, 2), -10);
    due("from 0", x.harm(1, 0), -1000000003);
    due("to 9", x.harm(0, 3), -1000000003);
    due("one twice", x.harm(0, 0), -1000000001);
    due("no CELLS", x.harm(-1, 0) + 1000000001 + x.harm(0, 4) + 1000000001, 0);
    due("far off", x.harm(MOST_INT, 0) + 1000000001 + x.harm(0, LEAST_INT) + 1000000001, 0);
    read("b0;");
    due("from a HOUSE", x.harm(0, 1), -1000000003);
    due("to a HOUSE", x.harm(2, 0), -1000000003);
    due("in mind", x.count(4), 18);
    fresh("s22;");
    due("no DRAWERS", x.harm(0, 1), 0);
    // As much as can be: 24 WISHES that all lose 10 at both ends.
    StringBuilder text = new StringBuilder("s22;d00;d00;d00;d00;d00;d00;");
    for (int k = 0; k < 6; k++) {
      text.append("w" + k + "0 299;w" + k + "0 299;w" + k + "1 299;w" + k + "1 299;");
    }
    fresh(text.toString());
    due("24 WISHES", x.harm(0, 1), 240);
    read("g0 3;g1 1;");
    due("24 WISHES", x.harm(0, 1), -240);
  }

  /** "(of several the least): who has the most of these (of several the least); how many". */
  private static void choices() {
    of(24);
    fresh("s22;");
    due("no DRAWERS", x.chosen(0) + x.chosen(1) + x.chosen(2), -9);
    fresh("s22;d10;");
    due("one is for itself", x.chosen(0), 0);
    due("one", x.chosen(1), 1);
    due("one", x.chosen(2), 0);
    due("what -1, 3", x.chosen(-1) + x.chosen(3), -2);
    due("what far off", x.chosen(MOST_INT) + x.chosen(LEAST_INT), -2);
    fresh("d00;d00;d00;d00;d00;d00;");
    due("all MAPS are alike", x.chosen(0), 0);
    due("all are for the first", x.chosen(1), 6);
    due("all MAPS are alike", x.chosen(2), 0);
    fresh("s22;d10;d10;d00;d10;w00 350;w11 350;w22 250;w33 350;w13 250;");
    // 0: 3 1 2 2. 1: CELL 1 from CELL 0: 1 3 2 2. 2 as it is. 3: CELL 3 from 0: 1 2 2 3.
    // 0 is for 0; 1 for 1; 2 for 0 (CELL 2 is 2 in all); 3 for 3.
    due("two are for 0", x.chosen(1), 2);
    due("0", x.chosen(0), 0);
    fresh("s22;d10;d10;d00;d10;w01 350;w11 350;w23 350;w33 350;w12 250;w02 250;");
    // 0 and 1 draw 1 3 2 2, 2 as it is, 3: 1 2 2 3. 0, 1 are for 0; 2, 3 for 3.
    due("two each", x.chosen(1), 2);
    due("the least", x.chosen(0), 0);
    fresh("s22;d00;d10;d00;d10;w03 350;w11 350;w21 350;w33 350;");
    // 0, 3 for 3; 1, 2 for 1.
    due("two each", x.chosen(1), 2);
    due("the least", x.chosen(0), 1);
    bests();
  }

  /** "BEST for all: whose MAP is worth most to all together." */
  private static void bests() {
    // 0 draws 3 1 2 2, 2 draws 1 2 3 2: 350 each by one, 1 draws as it is.
    fresh("s22;d10;d00;d10;w00 350;w22 350;");
    // 0: 50 + 40; as it is: 40 + 40; 2: CELL 0 down: 30 + 50.
    due("0", x.chosen(2), 0);
    read("w12 390;");
    // 0: 50 + 40 + 80 = 170; as it is 160; 2: 30 + 50 + 90 = 170: the least.
    due("of several the least", x.chosen(2), 0);
    read("w12 390;");
    due("2", x.chosen(2), 2);
    // 1 draws 1 3 2 2, 2 draws 1 2 3 2; to 3 the first is worth 140, the other 130, the LAND as it is 120.
    fresh("s22;d00;d10;d10;d00;w11 350;w22 350;w31 350;w31 350;w32 350;");
    due("1 and 3 are for 1", x.chosen(0), 1);
    due("1 and 3 are for 1", x.chosen(1), 2);
    due("1: 230, 2: 220, as it is: 200", x.chosen(2), 1);
    fresh("s22;d00;d00;d00;d00;d00;d10;w53 350;");
    due("the last of six", x.chosen(2), 5);
    due("five are for the first", x.chosen(1), 5);
    due("the first", x.chosen(0), 0);
  }

  /** "the first CELL whose HEIGHT isn't so (the least number of the SORT is skipped); -4 all are; the size, if it is short; how many CELLS, if it is long". */
  private static void judges() {
    of(25);
    int[] least = {-128, -32768, LEAST_INT};
    for (int sort = 0; sort < 3; sort++) {
      fresh("s22;g0 0;g3 9;");
      for (int n = 0; n <= 6; n++) {
        int[] numbers = Arrays.copyOf(new int[] {0, 2, 2, 9, 7, 7}, n);
        row(7, sort, numbers);
        due(n + " of SORT " + sort, x.judge(7), n == 4 ? -4 : Math.min(n, 4));
      }
      x.row(7, sort, 100);
      due("100 of SORT " + sort, x.judge(7), 1);
      for (int c = 0; c < 4; c++) {
        row(7, sort, 0, 2, 2, 9);
        for (int other = 0; other < 3; other++) {
          x.put(7, c, least[other]);
          // What is put in keeps its lowest bits: of longer ones they are 0.
          boolean isZero = other > sort && x.cell(c, 0) == 0;
          due("the least of SORT " + other + " at " + c + " of SORT " + sort, x.judge(7), other == sort || isZero ? -4 : c);
        }
        x.put(7, c, least[sort] + 1);
        due("one more than the least", x.judge(7), c);
        x.put(7, c, 99);
        due("99 is no HEIGHT here", x.judge(7), c);
        x.put(7, c, -1);
        due("-1 is no HEIGHT here", x.judge(7), c);
      }
      row(7, sort, least[sort], least[sort], least[sort], least[sort], least[sort]);
      due("all are skipped, but it is long", x.judge(7), 4);
      row(7, sort, least[sort], least[sort], least[sort], least[sort]);
      due("all are skipped", x.judge(7), -4);
      row(7, sort, least[sort], 3, least[sort]);
      due("short, but one isn't so", x.judge(7), 1);
    }
    fresh("s44;");
    x.row(7, 0, 16);
    for (int c = 0; c < 16; c++) {
      x.put(7, c, 2);
    }
    due("16", x.judge(7), -4);
    x.put(7, 15, 3);
    due("the last of 16", x.judge(7), 15);
    x.row(7, 0, 17);
    for (int c = 0; c < 17; c++) {
      x.put(7, c, 2);
    }
    due("17", x.judge(7), 16);
    x.row(7, 0, 15);
    for (int c = 0; c < 15; c++) {
      x.put(7, c, 2);
    }
    due("15", x.judge(7), 15);
  }

  // ---- the image, what is told

  /** "all that there is, but SHELVES (and THE IMAGE); RESTORED all is as it was then". */
  private static void images() {
    fresh("");
    of(27);
    due("there is none", x.restore(), -3);
    of(26);
    due("of a new one", x.image(), 0);
    read("s44;t9;l2;b15;q15;g0 0;d19;d29;d39;d49;d59;d69;w00 99;w515 99;");
    x.says(15, 9);
    for (int y = 0; y < 7; y++) {
      x.year();
    }
    row(6, 1, 5, 6);
    x.keep(7, 1, 5);
    of(27);
    due("the YEAR of then", x.restore(), 0);
    newLand();
    due("the SHELF stays", element(6, 1), 6);
    due("the SHELF stays", x.price(7), 36);
    due("the SHELF stays", x.toss(7), 236);
    // THE IMAGE stays: what comes behind does not change it.
    read("g0 9;b0;q8;t1;l1;d00;w00 11;");
    x.says(0, 1);
    x.year();
    due("again", x.restore(), 0);
    newLand();
    due("other DRAWERS come", land("d13;w00 11;"), 2);
    due("KIND", x.drawer(0, 0), 1);
    due("WISHES", x.drawer(0, 2), 1);
    x.year();
    of(26);
    due("another image", x.image(), 1);
    x.year();
    of(27);
    due("the last image", x.restore(), 1);
    due("DRAWERS", x.count(1), 1);
    due("said", x.count(3), 9);
    due("FIGURE", x.drawer(0, 1), 3);
    due("a DRAWER behind it", x.drawer(1, 0), -1);
  }

  private static void newLand() {
    int[] counts = {9, 0, 0, 0, 18, 0};
    int[] states = {3, 3, 60, 0, 0, 0};
    for (int what = 0; what < 6; what++) {
      due("count(" + what + ")", x.count(what), counts[what]);
      due("state(" + what + ")", x.state(what), states[what]);
    }
    heights("restored", 2, 2, 2, 2, 2, 2, 2, 2, 2);
  }

  /** "0 CELLS, 1 DRAWERS, 2 HOUSES, 3 CELLS of which THE MAP says something, 4 all HEIGHTS, 5 all WISHES; -1 for others". */
  private static void counts() {
    of(28);
    StringBuilder text = new StringBuilder("s44;d00;d00;d00;d00;d00;d00;");
    for (int c = 0; c < 16; c++) {
      text.append("g" + c + " 9;b" + c + ";");
    }
    fresh(text.toString());
    for (int c = 0; c < 16; c++) {
      x.says(c, 0);
    }
    int[] full = {16, 6, 16, 16, 144, 0};
    for (int what = 0; what < 6; what++) {
      due("full, count(" + what + ")", x.count(what), full[what]);
    }
    fresh("s22;g0 0;g1 0;g2 0;g3 0;");
    int[] empty = {4, 0, 0, 0, 0, 0};
    for (int what = 0; what < 6; what++) {
      due("empty, count(" + what + ")", x.count(what), empty[what]);
    }
    due("-1, 6", x.count(-1) + x.count(6), -2);
    due("far off", x.count(MOST_INT) + x.count(LEAST_INT), -2);
  }

  // ---- shelves

  /** "SHELF d gets: what = 0 nothing (the others do not matter); 1 DRAWER k: 0. -1." */
  private static void keeps() {
    of(29);
    fresh("d01;d02;d03;d04;d05;d06;");
    int[] ks = {0, 5, -1, 6, MOST_INT, LEAST_INT};
    for (int k : ks) {
      due("keep(0, 1, " + k + ")", x.keep(0, 1, k), k == 0 || k == 5 ? 0 : -1);
      due("which", x.toss(0), k == 0 ? 0 : 5);
    }
    for (int k : ks) {
      x.row(1, 0, 1);
      due("keep(1, 0, " + k + ")", x.keep(1, 0, k), 0);
      due("nothing", x.price(1), -11);
    }
    for (int d = 0; d < 8; d++) {
      due("SHELF " + d, x.keep(d, 1, 2), 0);
      due("SHELF " + d, x.toss(d), 2);
    }
    due("a DRAWER is no ROW", element(3, 0), NO_ELEMENT);
    x.row(3, 0, 1);
    due("a ROW is no DRAWER", x.price(3), -12);
    due("again a DRAWER", x.keep(3, 1, 1), 0);
    due("again a DRAWER", x.toss(3), 1);
    due("again no ROW", element(3, 0), NO_ELEMENT);
    due("again no ROW", x.put(3, 0, 1), -12);
    fresh("");
    due("no DRAWERS", x.keep(0, 1, 0), -1);
  }

  /** "a SORT (0 bytes, 1 shorts, 2 ints) and 0 .. 100 elements, 0 at first". */
  private static void rows() {
    of(30);
    fresh("");
    int[] sizes = {0, 1, 99, 100};
    for (int sort = 0; sort < 3; sort++) {
      for (int n : sizes) {
        due("row(7, " + sort + ", " + n + ")", x.row(7, sort, n), 0);
        due("the first", element(7, 0), n > 0 ? 0 : NO_ELEMENT);
        due("the last", element(7, n - 1), n > 0 ? 0 : NO_ELEMENT);
        due("behind the last", element(7, n), NO_ELEMENT);
        due("put in the last", x.put(7, n - 1, 7), n > 0 ? 0 : -13);
        due("put in the first", x.put(7, 0, 7), n > 0 ? 0 : -13);
        due("put behind the last", x.put(7, n, 7), -13);
      }
      due("0 at first, also where others stood", x.row(7, sort, 100), 0);
      due("the first", element(7, 0), 0);
      due("the last", element(7, 99), 0);
    }
    due("SORTS -1, 3", x.row(7, -1, 1) + x.row(7, 3, 1) + x.row(7, LEAST_INT, 1) + x.row(7, MOST_INT, 1), -4);
    due("101", x.row(7, 0, 101), -1);
    due("as many as can be", x.row(7, 0, MOST_INT), -1);
    due("-1", x.row(7, 0, -1), -14);
    due("as few as can be", x.row(7, 0, LEAST_INT), -14);
    due("as it was", x.put(7, 99, 1), 0);
  }

  /** "what is put in keeps its lowest bits". */
  private static void lowestBits() {
    of(31);
    fresh("");
    int[] numbers = {0, 1, -1, 127, 128, -128, -129, 255, 256, 32767, 32768, -32768, -32769, 65535, 65536, 0x12345678, MOST_INT, LEAST_INT};
    for (int sort = 0; sort < 3; sort++) {
      x.row(0, sort, numbers.length);
      long wide = sort == 0 ? 256 : sort == 1 ? 65536 : 4294967296L;
      for (int i = 0; i < numbers.length; i++) {
        long kept = Math.floorMod(numbers[i], wide);
        kept = kept >= wide / 2 ? kept - wide : kept;
        due("put", x.put(0, i, numbers[i]), 0);
        due("the lowest bits of " + numbers[i] + ", SORT " + sort, element(0, i), kept);
      }
    }
  }

  /** "IllegalArgumentException: no such SHELF; IllegalStateException: no ROW, no such place." */
  private static void elements() {
    of(32);
    fresh("d00;");
    row(0, 2, LEAST_INT, 5, MOST_INT);
    row(7, 0, 1);
    x.keep(1, 1, 0);
    due("the first", element(0, 0), LEAST_INT);
    due("the last", element(0, 2), MOST_INT);
    due("SHELF 7", element(7, 0), 1);
    int[] places = {-1, 3, MOST_INT, LEAST_INT};
    for (int i : places) {
      due("place " + i, element(0, i), NO_ELEMENT);
      due("a DRAWER, place " + i, element(1, i), NO_ELEMENT);
      due("nothing, place " + i, element(2, i), NO_ELEMENT);
      due("no SHELF, place " + i, element(8, i), NO_SHELF);
      due("no SHELF, place " + i, element(-1, i), NO_SHELF);
    }
    due("a DRAWER", element(1, 0), NO_ELEMENT);
    due("nothing", element(2, 0), NO_ELEMENT);
    due("far off", element(MOST_INT, 0), NO_SHELF);
    due("far off", element(LEAST_INT, 0), NO_SHELF);
  }

  /** "n elements of the ROW in SHELF d from i on come to that in SHELF e from j on: n." */
  private static void copies() {
    of(33);
    for (int sort = 0; sort < 3; sort++) {
      fresh("");
      x.row(0, sort, 100);
      x.row(7, sort, 100);
      for (int i = 0; i < 100; i += 33) {
        x.put(0, i, i + 1);
      }
      due("all 100", x.copy(0, 0, 7, 0, 100), 100);
      for (int i = 0; i < 100; i += 33) {
        due("copied", element(7, i), i + 1);
      }
      due("101", x.copy(0, 0, 7, 0, 101), -13);
      due("one too far from", x.copy(0, 1, 7, 0, 100), -13);
      due("one too far to", x.copy(0, 0, 7, 1, 100), -13);
      due("the last", x.copy(0, 99, 7, 0, 1), 1);
      due("the last", element(7, 0), 100);
      due("to the last", x.copy(0, 0, 7, 99, 1), 1);
      due("to the last", element(7, 99), 1);
      due("behind the last", x.copy(0, 100, 7, 0, 1), -13);
      due("to behind the last", x.copy(0, 0, 7, 100, 1), -13);
      due("none", x.copy(0, 0, 7, 0, 0), 0);
      due("-1", x.copy(0, 1, 7, 1, -1), -13);
      due("from -1", x.copy(0, -1, 7, 0, 1), -13);
      due("to -1", x.copy(0, 0, 7, -1, 1), -13);
      due("far off", x.copy(0, 1, 7, 1, MOST_INT) + x.copy(0, MOST_INT, 7, 0, 1) + x.copy(0, 0, 7, MOST_INT, 1), -39);
      due("far below", x.copy(0, 1, 7, 1, LEAST_INT) + x.copy(0, LEAST_INT, 7, 0, 1) + x.copy(0, 0, 7, LEAST_INT, 1), -39);
    }
    fresh("");
    row(0, 2, 1, 2, 3, 4, 5);
    due("on itself, on", x.copy(0, 0, 0, 2, 3), 3);
    int[] on = {1, 2, 1, 2, 3};
    for (int i = 0; i < 5; i++) {
      due("on itself, on", element(0, i), on[i]);
    }
    due("on itself, back", x.copy(0, 1, 0, 0, 4), 4);
    int[] back = {2, 1, 2, 3, 3};
    for (int i = 0; i < 5; i++) {
      due("on itself, back", element(0, i), back[i]);
    }
    x.row(1, 2, 0);
    due("none of a ROW of 0", x.copy(1, 0, 0, 0, 0), 0);
    due("one of a ROW of 0", x.copy(1, 0, 0, 0, 1), -13);
    for (int a = 0; a < 3; a++) {
      for (int b = 0; b < 3; b++) {
        x.row(2, a, 1);
        x.row(3, b, 1);
        due("SORTS " + a + ", " + b, x.copy(2, 0, 3, 0, 1), a == b ? 1 : -12);
      }
    }
  }

  /** "DRAWER 5; OWN a DRAWER's and FIGURE; ALL 3 times an OWN's; SMALL an OWN's less 2; ...", with each FIGURE. */
  private static void prices() {
    of(34);
    for (int figure = 0; figure <= 9; figure++) {
      int[] prices = {5, 5 + figure, 15 + 3 * figure, 3 + figure, 25 + figure, 4, 4 * figure, (3 + figure) / 2};
      for (int kind = 0; kind < 8; kind++) {
        fresh("d" + kind + figure + ";");
        x.keep(7, 1, 0);
        due("PRICE of KIND " + kind + ", FIGURE " + figure, x.price(7), prices[kind]);
      }
    }
  }

  /** "its number (the DRAWER's); of AHEAD ones 100 more; of BLOT ones 200 plus their PRICE ...; -15: TOLD ones, and any with FIGURE 0". */
  private static void tosses() {
    of(35);
    for (int figure = 0; figure <= 9; figure += 1) {
      for (int kind = 0; kind < 8; kind++) {
        for (int number = 0; number < 6; number += 5) {
          fresh("d09;".repeat(number) + "d" + kind + figure + ";");
          x.keep(0, 1, number);
          int due = kind == 6 ? 200 + 4 * figure : kind == 4 ? 100 + number : number;
          due("toss of KIND " + kind + ", FIGURE " + figure + ", number " + number, x.toss(0), kind == 5 || figure == 0 ? -15 : due);
        }
      }
    }
    // Its number stays, also when it has gone with the IMAGE.
    fresh("");
    x.image();
    read("d09;d43;d64;");
    x.keep(0, 1, 0);
    x.keep(1, 1, 1);
    x.keep(2, 1, 2);
    x.restore();
    due("no DRAWERS", x.count(1), 0);
    due("toss", x.toss(0), 0);
    due("toss", x.toss(1), 101);
    due("toss", x.toss(2), 216);
    due("PRICE", x.price(1), 28);
  }
}
