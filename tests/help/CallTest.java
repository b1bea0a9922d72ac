/** What the tests of calls share: the object that is asked, short ways to fill it, and the answers that are due. */
class CallTest {
  static final long NO_SHELF = Long.MIN_VALUE;
  static final long NO_ELEMENT = Long.MIN_VALUE + 1;
  private static final int MOST_BYTES = 100;
  private static int wrong = 0;
  private static String about = "";
  /** The object that the calls go to. */
  static LandByMap x;

  static void of(int promise) {
    about = "promise " + promise;
  }

  static void due(String call, long got, long want) {
    if (got != want) {
      wrong++;
      System.out.println(about + ": " + call + " answered " + got + ", due is " + want);
    }
  }

  static void same(String what, String got, String want) {
    if (!got.equals(want)) {
      wrong++;
      System.out.println(about + ": " + what + " is not the same:\n  " + got + "\n  " + want);
    }
  }

  static void end(String wellDone) {
    System.out.println(wrong == 0 ? wellDone : wrong + " answers are not as due");
    if (wrong != 0) {
      System.exit(1);
    }
  }

  static void fresh(String text) {
    x = new LandByMap();
    read(text);
  }

  /** Puts a text in SHELF 0 and reads it. */
  static int land(String text) {
    x.row(0, 0, text.length());
    for (int i = 0; i < text.length(); i++) {
      x.put(0, i, text.charAt(i));
    }
    return x.land(0);
  }

  /** Reads a text that has no FAULT, in pieces if it is too long for a ROW. */
  static void read(String text) {
    String left = text;
    while (!left.isEmpty()) {
      int end = left.length() <= MOST_BYTES ? left.length() : left.lastIndexOf(';', MOST_BYTES - 1) + 1;
      String piece = left.substring(0, end);
      int answer = land(piece);
      if (answer < 1) {
        wrong++;
        System.out.println(about + ": the text " + piece + " answered " + answer);
      }
      left = left.substring(end);
    }
  }

  static void row(int d, int sort, int... numbers) {
    x.row(d, sort, numbers.length);
    for (int i = 0; i < numbers.length; i++) {
      x.put(d, i, numbers[i]);
    }
  }

  static void map(int... heights) {
    row(1, 0, heights);
    x.map(1);
  }

  static void heights(String when, int... due) {
    for (int c = 0; c < due.length; c++) {
      due(when + " cell(" + c + ", 0)", x.cell(c, 0), due[c]);
    }
  }

  static void said(String when, int... due) {
    for (int c = 0; c < due.length; c++) {
      due(when + " cell(" + c + ", 2)", x.cell(c, 2), due[c]);
    }
  }

  static void drawn(int drawer, int... due) {
    for (int c = 0; c < due.length; c++) {
      due("draws(" + drawer + ", " + c + ")", x.draws(drawer, c), due[c]);
    }
  }

  static void dug(int left, int steps, int hours) {
    due("dig(0)", x.dig(0), left);
    due("dig(1)", x.dig(1), steps);
    due("dig(2)", x.dig(2), hours);
  }

  /** What element answers, or one of two numbers of its own for what it throws. */
  static long element(LandByMap asked, int d, int i) {
    try {
      return asked.element(d, i);
    } catch (IllegalArgumentException refused) {
      return NO_SHELF;
    } catch (IllegalStateException refused) {
      return NO_ELEMENT;
    }
  }

  static long element(int d, int i) {
    return element(x, d, i);
  }
}
