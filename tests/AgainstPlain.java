import java.util.ArrayList;
import java.util.List;
import java.util.Random;
import java.util.regex.Matcher;
import java.util.regex.Pattern;

/**
 * The document written a second time, as plainly as can be and with no thought of speed, and random
 * runs of calls (always the same ones) that the class must answer alike.
 */
public final class AgainstPlain {
  private static final int RUNS = 2500;
  /** What an object answers behind so many calls is free, and one turn makes no more than those. */
  private static final int CALLS = 512;
  private static final int CALLS_OF_A_TURN = 60;
  /** A ROW's elements behind so many stay 0, so that long ROWS don't take all calls. */
  private static final int MOST_PUT = 20;

  public static void main(String[] args) {
    int wrong = 0;
    for (int run = 0; run < RUNS && wrong < 5; run++) {
      wrong += oneRun(run);
    }
    System.out.println(wrong == 0 ? "all random runs are answered alike" : wrong + " random runs differ");
    if (wrong != 0) {
      System.exit(1);
    }
  }

  private static int oneRun(int run) {
    Random random = new Random(run);
    LandByMap real = new LandByMap();
    PlainLand plain = new PlainLand();
    List<String> told = new ArrayList<>();
    Calls calls = new Calls(random, real, plain, told);
    calls.begin();
    while (calls.made <= CALLS - CALLS_OF_A_TURN) {
      if (!calls.next()) {
        System.out.println("run " + run + ":");
        for (String line : told) {
          System.out.println("  " + line);
        }
        return 1;
      }
    }
    return 0;
  }

  /** Makes random calls of both and compares what they answer. */
  private static final class Calls {
    private final Random random;
    private final LandByMap real;
    private final PlainLand plain;
    private final List<String> told;
    private boolean alike = true;
    int made = 0;

    Calls(Random random, LandByMap real, PlainLand plain, List<String> told) {
      this.random = random;
      this.real = real;
      this.plain = plain;
      this.told = told;
    }

    private void same(String call, long got, long due) {
      made++;
      told.add(call + " answered " + got + (got == due ? "" : ", due is " + due));
      if (got != due) {
        alike = false;
      }
    }

    private void put(int d, int i, int v) {
      same("put(" + d + ", " + i + ", " + v + ")", real.put(d, i, v), plain.put(d, i, v));
    }

    private int up(int n) {
      return random.nextInt(n);
    }

    /** Mostly in 0 .. n - 1, now and then just beside it or far off. */
    private int about(int n) {
      int r = up(40);
      if (r == 0) {
        return -1;
      }
      if (r == 1) {
        return n;
      }
      if (r == 2) {
        return new int[] {Integer.MIN_VALUE, Integer.MAX_VALUE, 99, -4, 16, 100, 255}[up(7)];
      }
      return up(Math.max(1, n));
    }

    private int aCell() {
      return about(plain.cells());
    }

    void begin() {
      if (up(8) != 0) {
        readText("s" + (2 + up(3)) + (2 + up(3)) + ";");
      }
      StringBuilder text = new StringBuilder();
      for (int c = 0; c < plain.cells() && text.length() < 90; c++) {
        if (up(3) != 0) {
          text.append("g").append(c).append(" ").append(up(up(3) == 0 ? 10 : 5)).append(";");
        }
      }
      if (text.length() > 0) {
        readText(text.toString());
      }
      int drawers = up(7);
      text.setLength(0);
      for (int k = 0; k < drawers; k++) {
        text.append("d").append(up(8)).append(up(10)).append(";");
      }
      readText(text.append("l").append(up(3)).append(";t").append(up(4) == 0 ? up(1000) : up(40)).append(";").toString());
      for (int k = 0; k < drawers; k++) {
        text.setLength(0);
        int wishes = up(5);
        for (int w = 0; w < wishes; w++) {
          text.append("w").append(k).append(up(plain.cells())).append(" ").append(up(10)).append(1 + up(99)).append(";");
        }
        if (wishes > 0) {
          readText(text.toString());
        }
      }
    }

    private void readText(String text) {
      int d = up(8);
      int n = Math.min(100, text.length());
      same("row(" + d + ", 0, " + n + ")", real.row(d, 0, n), plain.row(d, 0, n));
      for (int i = 0; i < n; i++) {
        put(d, i, text.charAt(i));
      }
      same("land(" + d + ") of \"" + text + "\"", real.land(d), plain.land(d));
    }

    private String aStatement() {
      int cells = plain.cells();
      int cell = up(12) == 0 ? up(1200) : up(cells);
      switch (up(10)) {
        case 0:
          return up(3) == 0 ? "s" + (2 + up(3)) + (2 + up(3)) + ";" : "s" + up(10) + up(10) + ";";
        case 1:
        case 2:
          return "g" + cell + " " + up(10) + ";";
        case 3:
          return up(3) == 0 ? "b" + cell + ";" : "q" + cell + ";";
        case 4:
          return "q" + cell + ";";
        case 5:
          return "t" + up(up(2) == 0 ? 1100 : 50) + ";";
        case 6:
          return "l" + up(4) + ";";
        case 7:
          return "d" + up(9) + up(10) + ";";
        default:
          return "w" + up(Math.max(1, plain.now.drawers.size() + (up(9) == 0 ? 1 : 0))) + cell + " " + up(10) + up(up(9) == 0 ? 200 : 100) + ";";
      }
    }

    private void aText() {
      StringBuilder text = new StringBuilder();
      int statements = up(12) == 0 ? 0 : 1 + up(5);
      for (int i = 0; i < statements; i++) {
        text.append(aStatement());
      }
      if (text.length() > 0 && up(3) == 0) {
        int at = up(text.length());
        char sign = "sgbqtldw0123456789; zS:/".charAt(up(24));
        switch (up(4)) {
          case 0:
            text.setCharAt(at, sign);
            break;
          case 1:
            text.insert(at, sign);
            break;
          case 2:
            text.deleteCharAt(at);
            break;
          default:
            text.setLength(at);
            break;
        }
      }
      readText(text.toString());
    }

    /** A row of heights, of as many as cells or so. */
    private int aMap() {
      int d = up(8);
      int n = up(15) == 0 ? about(18) : plain.cells();
      int sort = up(20) == 0 ? about(3) : 0;
      same("row(" + d + ", " + sort + ", " + n + ")", real.row(d, sort, n), plain.row(d, sort, n));
      boolean even = up(2) == 0;
      for (int i = 0; i < n && i < MOST_PUT; i++) {
        int v = up(60) == 0 ? about(11) : up(6) == 0 ? 99 : up(10);
        if (even && i < plain.cells()) {
          v = up(3) == 0 ? 99 : plain.now.heights[i];
        }
        put(d, i, v);
      }
      return d;
    }

    private void aJudging() {
      int d = up(8);
      int n = up(4) == 0 ? up(20) : plain.cells();
      int sort = up(3);
      same("row(" + d + ", " + sort + ", " + n + ")", real.row(d, sort, n), plain.row(d, sort, n));
      for (int i = 0; i < n && i < plain.cells(); i++) {
        int v = up(20) == 0 ? up(10) : plain.now.heights[i];
        v = up(6) == 0 ? new int[] {-128, -32768, Integer.MIN_VALUE}[sort] : v;
        v = up(30) == 0 ? new int[] {-128, -32768, Integer.MIN_VALUE}[up(3)] : v;
        put(d, i, v);
      }
      same("judge(" + d + ")", real.judge(d), plain.judge(d));
    }

    private void someWorks() {
      int d = up(8);
      int n = up(14);
      same("row(" + d + ", 0, " + n + ")", real.row(d, 0, n), plain.row(d, 0, n));
      for (int i = 0; i < n && i < MOST_PUT; i++) {
        int v = up(60) == 0 ? about(16) : up(plain.cells());
        put(d, i, v);
      }
      same("works(" + d + ")", real.works(d), plain.works(d));
    }

    /** A shift that a map says, so that least and dig often have something to do. */
    private void evenMap() {
      for (int i = 0; i < 1 + up(3); i++) {
        int a = up(plain.cells());
        int b = up(plain.cells());
        int h = plain.now.heights[a] - 1 - up(2);
        int g = plain.now.heights[b] + 1 + up(2);
        if (a != b) {
          same("says(" + a + ", " + h + ")", real.says(a, h), plain.says(a, h));
          same("says(" + b + ", " + g + ")", real.says(b, g), plain.says(b, g));
        }
      }
    }

    boolean next() {
      int pick = up(44);
      if (pick < 22) {
        ofLand(pick);
      } else {
        ofDrawers(pick);
      }
      return alike;
    }

    private void ofLand(int pick) {
      int a = aCell();
      int b = aCell();
      int w = about(6);
      int d = about(8);
      switch (pick) {
        case 0: aText(); break;
        case 1: same("cell(" + a + ", " + w + ")", real.cell(a, w), plain.cell(a, w)); break;
        case 2: same("state(" + w + ")", real.state(w), plain.state(w)); break;
        case 3: {
          int n = up(5) == 0 ? about(1000) : about(30);
          if (up(3) != 0) {
            same("set(0, " + n + ")", real.set(0, n), plain.set(0, n));
          } else {
            int k = about(2);
            int m = about(3);
            same("set(" + k + ", " + m + ")", real.set(k, m), plain.set(k, m));
          }
          break;
        }
        case 4: {
          int h = up(3) == 0 ? -1 : about(10);
          same("says(" + a + ", " + h + ")", real.says(a, h), plain.says(a, h));
          break;
        }
        case 5: {
          int m = up(10) == 0 ? d : aMap();
          same("map(" + m + ")", real.map(m), plain.map(m));
          break;
        }
        case 6: same("water(" + w + ")", real.water(w), plain.water(w)); break;
        case 7: same("hours(" + a + ", " + b + ")", real.hours(a, b), plain.hours(a, b)); break;
        case 8:
        case 9: same("haul(" + a + ", " + b + ")", real.haul(a, b), plain.haul(a, b)); break;
        case 10: {
          int k = about(2);
          same("like(" + k + ")", real.like(k), plain.like(k));
          break;
        }
        case 11:
        case 12: evenMap(); same("least()", real.least(), plain.least()); break;
        case 13: someWorks(); break;
        case 14:
        case 15: {
          int k = about(3);
          same("dig(" + k + ")", real.dig(k), plain.dig(k));
          break;
        }
        case 16: aJudging(); break;
        case 17: same("image()", real.image(), plain.image()); break;
        case 18: {
          if (up(4) == 0) {
            same("restore()", real.restore(), plain.restore());
          }
          break;
        }
        case 19: same("count(" + w + ")", real.count(w), plain.count(w)); break;
        case 20: {
          int e = aMap();
          int f = up(5) == 0 ? d : aMap();
          int k = up(6) == 0 ? about(4) : 1 + up(3);
          boolean join = up(2) == 0;
          same("seam(" + e + ", " + f + ", " + k + ", " + join + ")", real.seam(e, f, k, join), plain.seam(e, f, k, join));
          break;
        }
        default:
          evenMap();
          same("blot(" + a + ", " + b + ")", real.blot(a, b), plain.blot(a, b));
          break;
      }
    }

    private void ofDrawers(int pick) {
      int a = aCell();
      int b = aCell();
      int k = about(plain.now.drawers.size());
      int d = about(8);
      int e = about(8);
      int w = about(4);
      switch (pick) {
        case 22: same("drawer(" + k + ", " + w + ")", real.drawer(k, w), plain.drawer(k, w)); break;
        case 23:
        case 24:
        case 25:
        case 26: same("draws(" + k + ", " + a + ")", real.draws(k, a), plain.draws(k, a)); break;
        case 27:
        case 28: same("year()", real.year(), plain.year()); break;
        case 29: {
          if (up(4) == 0) {
            same("still()", real.still(), plain.still());
          }
          break;
        }
        case 30: {
          if (up(4) == 0) {
            same("rings()", real.rings(), plain.rings());
          }
          break;
        }
        case 31: {
          if (up(3) == 0) {
            int n = about(31);
            int z = random.nextInt();
            int x = about(2);
            same("seeded(" + n + ", " + z + ", " + x + ")", real.seeded(n, z, x), plain.seeded(n, z, x));
          }
          break;
        }
        case 32: same("harm(" + a + ", " + b + ")", real.harm(a, b), plain.harm(a, b)); break;
        case 33:
        case 34: {
          int x = about(3);
          same("chosen(" + x + ")", real.chosen(x), plain.chosen(x));
          break;
        }
        case 35:
        case 36: {
          int x = up(4) == 0 ? about(2) : 1;
          same("keep(" + d + ", " + x + ", " + k + ")", real.keep(d, x, k), plain.keep(d, x, k));
          break;
        }
        case 37: {
          int s = about(3);
          int n = about(101);
          same("row(" + d + ", " + s + ", " + n + ")", real.row(d, s, n), plain.row(d, s, n));
          break;
        }
        case 38: {
          int i = about(50);
          int v = up(2) == 0 ? random.nextInt() : about(300);
          put(d, i, v);
          break;
        }
        case 39: anElement(d, about(50)); break;
        case 40:
        case 41: {
          int i = about(30);
          int j = about(30);
          int n = about(30);
          same("copy(" + d + ", " + i + ", " + e + ", " + j + ", " + n + ")", real.copy(d, i, e, j, n), plain.copy(d, i, e, j, n));
          break;
        }
        case 42: same("price(" + d + ")", real.price(d), plain.price(d)); break;
        default: same("toss(" + d + ")", real.toss(d), plain.toss(d)); break;
      }
    }

    private void anElement(int d, int i) {
      long got;
      long due;
      try {
        got = real.element(d, i);
      } catch (IllegalArgumentException refused) {
        got = Long.MIN_VALUE;
      } catch (IllegalStateException refused) {
        got = Long.MIN_VALUE + 1;
      }
      if (d < 0 || d > 7) {
        due = Long.MIN_VALUE;
      } else if (!(plain.shelves[d] instanceof PlainRow) || i < 0 || i >= ((PlainRow) plain.shelves[d]).numbers.length) {
        due = Long.MIN_VALUE + 1;
      } else {
        due = ((PlainRow) plain.shelves[d]).numbers[i];
      }
      same("element(" + d + ", " + i + ")", got, due);
    }
  }
}

final class PlainWish {
  int cell;
  int height;
  int worth;
}

final class PlainDrawer {
  int number;
  int kind;
  int figure;
  List<PlainWish> wishes = new ArrayList<>();

  PlainDrawer twin() {
    PlainDrawer t = new PlainDrawer();
    t.number = number;
    t.kind = kind;
    t.figure = figure;
    t.wishes.addAll(wishes);
    return t;
  }

  int worth(int[] ground) {
    int sum = 0;
    for (PlainWish w : wishes) {
      int one = w.worth - 10 * Math.abs(ground[w.cell] - w.height);
      sum += one < 0 ? 0 : one;
    }
    return sum;
  }

  int price() {
    int[] byKind = {5, 5 + figure, 3 * (5 + figure), 5 + figure - 2, 5 + figure + 20, 4, 4 * figure, (5 + figure - 2) / 2};
    return byKind[kind];
  }
}

final class PlainRow {
  int sort;
  int[] numbers;
}

/** All that the image holds. */
final class PlainState {
  int rows = 3;
  int columns = 3;
  int[] heights = {2, 2, 2, 2, 2, 2, 2, 2, 2};
  boolean[] houses = new boolean[9];
  /** -4 unsaid. */
  int[] map = {-4, -4, -4, -4, -4, -4, -4, -4, -4};
  int spring = 0;
  int hours = 60;
  int law = 0;
  int year = 0;
  List<PlainDrawer> drawers = new ArrayList<>();
  int steps;
  int left;

  PlainState twin() {
    PlainState t = new PlainState();
    t.rows = rows;
    t.columns = columns;
    t.heights = heights.clone();
    t.houses = houses.clone();
    t.map = map.clone();
    t.spring = spring;
    t.hours = hours;
    t.law = law;
    t.year = year;
    for (PlainDrawer d : drawers) {
      t.drawers.add(d.twin());
    }
    return t;
  }

  int cells() {
    return rows * columns;
  }

  int near(int a, int b) {
    return Math.abs(a / columns - b / columns) + Math.abs(a % columns - b % columns);
  }

  boolean canHaul(int a, int b) {
    return a >= 0 && b >= 0 && a < cells() && b < cells() && a != b && !houses[a] && !houses[b] && heights[a] >= 1 && heights[b] <= 8;
  }

  int hauling(int a, int b) {
    int h = 2 * near(a, b);
    if (heights[b] > heights[a]) {
      h += heights[b] - heights[a];
    }
    return h;
  }

  List<Integer> way() {
    List<Integer> way = new ArrayList<>();
    int at = spring;
    while (true) {
      way.add(at);
      int r = at / columns;
      int c = at % columns;
      int[][] round = {{r - 1, c}, {r, c + 1}, {r + 1, c}, {r, c - 1}};
      int lowest = 100;
      int where = -1;
      for (int[] p : round) {
        if (p[0] < 0 || p[1] < 0 || p[0] >= rows || p[1] >= columns) {
          continue;
        }
        int h = heights[p[0] * columns + p[1]];
        if (h < lowest) {
          lowest = h;
          where = p[0] * columns + p[1];
        }
      }
      if (lowest >= heights[at]) {
        return way;
      }
      at = where;
    }
  }

  boolean lost() {
    List<Integer> way = way();
    int at = way.get(way.size() - 1);
    int r = at / columns;
    int c = at % columns;
    return r == 0 || c == 0 || r == rows - 1 || c == columns - 1;
  }

  /** Any transport at first, then rings that make it cheaper, till there are none. */
  int least(int[] by) {
    int n = cells();
    int[] excess = new int[n];
    int sum = 0;
    for (int c = 0; c < n; c++) {
      excess[c] = by[c] == -4 ? 0 : heights[c] - by[c];
      sum += excess[c];
      if (excess[c] != 0 && houses[c]) {
        return -4;
      }
    }
    if (sum != 0) {
      return -4;
    }
    int[][] flow = new int[n][n];
    boolean[] high = new boolean[n];
    boolean[] low = new boolean[n];
    for (int a = 0; a < n; a++) {
      high[a] = excess[a] > 0;
      low[a] = excess[a] < 0;
    }
    for (int a = 0; a < n; a++) {
      for (int b = 0; b < n; b++) {
        while (excess[a] > 0 && excess[b] < 0) {
          flow[a][b]++;
          excess[a]--;
          excess[b]++;
        }
      }
    }
    while (cheapen(n, flow, high, low)) {
      continue;
    }
    int hours = 0;
    for (int a = 0; a < n; a++) {
      for (int b = 0; b < n; b++) {
        hours += 2 * near(a, b) * flow[a][b];
      }
    }
    return hours;
  }

  private boolean cheapen(int n, int[][] flow, boolean[] high, boolean[] low) {
    int far = 1000000;
    int[][] dist = new int[n][n];
    int[][] next = new int[n][n];
    for (int a = 0; a < n; a++) {
      for (int b = 0; b < n; b++) {
        dist[a][b] = a == b ? 0 : far;
        next[a][b] = b;
        if (high[a] && low[b]) {
          dist[a][b] = near(a, b);
        } else if (low[a] && high[b] && flow[b][a] > 0) {
          dist[a][b] = -near(a, b);
        }
      }
    }
    for (int k = 0; k < n; k++) {
      for (int a = 0; a < n; a++) {
        for (int b = 0; b < n; b++) {
          if (dist[a][k] < far && dist[k][b] < far && dist[a][k] + dist[k][b] < dist[a][b]) {
            dist[a][b] = dist[a][k] + dist[k][b];
            next[a][b] = next[a][k];
            if (dist[a][a] < 0) {
              turn(a, next, flow, high);
              return true;
            }
          }
        }
      }
    }
    return false;
  }

  private void turn(int start, int[][] next, int[][] flow, boolean[] high) {
    List<Integer> ring = new ArrayList<>();
    int at = start;
    do {
      ring.add(at);
      at = next[at][start];
    } while (at != start && ring.size() < 100);
    for (int i = 0; i < ring.size(); i++) {
      int a = ring.get(i);
      int b = ring.get((i + 1) % ring.size());
      if (high[a]) {
        flow[a][b]++;
      } else {
        flow[b][a]--;
        if (flow[b][a] < 0) {
          throw new IllegalStateException("the plain transport is wrong");
        }
      }
    }
  }

  void dig() {
    steps = 0;
    left = hours;
    int n = cells();
    if (law == 0) {
      int least = least(map);
      if (least != -4 && least <= hours) {
        left -= least;
        for (int c = 0; c < n; c++) {
          if (map[c] != -4) {
            steps += heights[c] > map[c] ? heights[c] - map[c] : 0;
            heights[c] = map[c];
          }
        }
      }
      return;
    }
    boolean wasLost = lost();
    boolean[][] barred = new boolean[n][n];
    while (true) {
      int from = -1;
      int to = -1;
      for (int a = 0; a < n; a++) {
        for (int b = 0; b < n; b++) {
          boolean pair = map[a] != -4 && map[b] != -4 && heights[a] > map[a] && heights[b] < map[b] && !houses[a] && !houses[b] && !barred[a][b];
          if (pair && (from < 0 || near(a, b) < near(from, to))) {
            from = a;
            to = b;
          }
        }
      }
      if (from < 0 || 2 * near(from, to) > left) {
        return;
      }
      heights[from]--;
      heights[to]++;
      if (law == 2 && wasLost && !lost()) {
        heights[from]++;
        heights[to]--;
        barred[from][to] = true;
      } else {
        steps++;
        left -= 2 * near(from, to);
      }
    }
  }

  int worthToAll(int[] ground) {
    int sum = 0;
    for (PlainDrawer d : drawers) {
      sum += d.worth(ground);
    }
    return sum;
  }

  private int appraised(PlainDrawer who, int kind) {
    if (kind == 2) {
      return worthToAll(heights);
    }
    if (kind == 4) {
      PlainState comes = twin();
      PlainDrawer next = drawers.get((who.number + 1) % drawers.size());
      comes.map = comes.drawn(next, 1);
      comes.dig();
      return who.worth(comes.heights);
    }
    return who.worth(heights);
  }

  int[] drawn(PlainDrawer who, int kind) {
    int n = cells();
    int[] plan = heights.clone();
    if (kind == 0) {
      return plan;
    }
    if (kind == 5 || kind == 6) {
      for (int c = 0; c < n; c++) {
        plan[c] = map[c] == -4 ? heights[c] : map[c];
      }
      if (kind == 6 && who.figure < n) {
        plan[who.figure] = Math.max(0, plan[who.figure] - 1);
      }
      return plan;
    }
    int best = appraised(who, kind);
    int[] chosen = plan.clone();
    for (int a = 0; a < n; a++) {
      for (int b = 0; b < n; b++) {
        if (!canHaul(a, b) || (kind == 7 && near(a, b) > who.figure)) {
          continue;
        }
        int paid = kind == 3 || kind == 7 ? hauling(a, b) : 0;
        heights[a]--;
        heights[b]++;
        int worth = appraised(who, kind) - paid;
        if (worth > best) {
          best = worth;
          chosen = heights.clone();
        }
        heights[a]++;
        heights[b]--;
      }
    }
    return chosen;
  }

  int pass(int number) {
    PlainDrawer who = drawers.get(number);
    int[] was = heights.clone();
    map = drawn(who, who.kind);
    dig();
    year++;
    return off(was);
  }

  int pass() {
    return pass(year % drawers.size());
  }

  int off(int[] other) {
    int sum = 0;
    for (int c = 0; c < cells(); c++) {
      sum += Math.abs(heights[c] - other[c]);
    }
    return sum;
  }

  int offMap() {
    int sum = 0;
    for (int c = 0; c < cells(); c++) {
      sum += map[c] == -4 ? 0 : Math.abs(heights[c] - map[c]);
    }
    return sum;
  }
}

final class PlainLand {
  private static final String NUMBER = "(0|[1-9][0-9]{0,2})";
  private static final Pattern STATEMENT = Pattern.compile(
      "s[0-9][0-9];|g" + NUMBER + " [0-9];|b" + NUMBER + ";|q" + NUMBER + ";|t" + NUMBER + ";|l[0-9];|d[0-9][0-9];|w[0-9]" + NUMBER + " [0-9]" + NUMBER + ";");
  private static final Pattern TEXT = Pattern.compile("(" + STATEMENT.pattern() + ")+");
  PlainState now = new PlainState();
  PlainState picture = null;
  Object[] shelves = new Object[8];

  int cells() {
    return now.cells();
  }

  private boolean noCell(int c) {
    return c < 0 || c >= cells();
  }

  private static boolean noShelf(int d) {
    return d < 0 || d > 7;
  }

  private int noBytes(int d) {
    if (noShelf(d)) {
      return -1;
    }
    if (shelves[d] == null) {
      return -11;
    }
    return shelves[d] instanceof PlainRow && ((PlainRow) shelves[d]).sort == 0 ? 0 : -12;
  }

  private int[] numbers(int d) {
    return ((PlainRow) shelves[d]).numbers;
  }

  int land(int d) {
    if (noBytes(d) != 0) {
      return noBytes(d);
    }
    StringBuilder bytes = new StringBuilder();
    for (int v : numbers(d)) {
      bytes.append((char) (v & 255));
    }
    String text = bytes.toString();
    for (int n = 1; n <= text.length(); n++) {
      Matcher m = TEXT.matcher(text.substring(0, n));
      if (!m.matches() && !m.hitEnd()) {
        return -1000 - (n - 1);
      }
    }
    if (!TEXT.matcher(text).matches()) {
      return -1000 - text.length();
    }
    PlainState tried = now.twin();
    Matcher m = STATEMENT.matcher(text);
    int n = 0;
    while (m.find()) {
      if (!act(tried, m.group())) {
        return -2000 - m.start();
      }
      n++;
    }
    now = tried;
    return n;
  }

  private static boolean act(PlainState s, String statement) {
    char letter = statement.charAt(0);
    String rest = statement.substring(1, statement.length() - 1);
    switch (letter) {
      case 's': {
        int r = rest.charAt(0) - '0';
        int c = rest.charAt(1) - '0';
        if (!s.drawers.isEmpty() || r < 2 || r > 4 || c < 2 || c > 4) {
          return false;
        }
        s.rows = r;
        s.columns = c;
        s.heights = new int[r * c];
        s.map = new int[r * c];
        s.houses = new boolean[r * c];
        java.util.Arrays.fill(s.heights, 2);
        java.util.Arrays.fill(s.map, -4);
        s.spring = 0;
        return true;
      }
      case 'g': {
        String[] two = rest.split(" ");
        int c = Integer.parseInt(two[0]);
        if (c >= s.cells()) {
          return false;
        }
        s.heights[c] = Integer.parseInt(two[1]);
        return true;
      }
      case 'b': {
        int c = Integer.parseInt(rest);
        if (c >= s.cells() || s.houses[c]) {
          return false;
        }
        s.houses[c] = true;
        return true;
      }
      case 'q':
        s.spring = Integer.parseInt(rest);
        return s.spring < s.cells();
      case 't':
        s.hours = Integer.parseInt(rest);
        return true;
      case 'l':
        s.law = Integer.parseInt(rest);
        return s.law <= 2;
      case 'd': {
        PlainDrawer d = new PlainDrawer();
        d.number = s.drawers.size();
        d.kind = rest.charAt(0) - '0';
        d.figure = rest.charAt(1) - '0';
        s.drawers.add(d);
        return d.kind <= 7 && d.number < 6;
      }
      default: {
        int k = rest.charAt(0) - '0';
        String[] two = rest.substring(1).split(" ");
        PlainWish w = new PlainWish();
        w.cell = Integer.parseInt(two[0]);
        w.height = two[1].charAt(0) - '0';
        w.worth = Integer.parseInt(two[1].substring(1));
        if (k >= s.drawers.size() || w.cell >= s.cells() || w.worth < 1 || w.worth > 99) {
          return false;
        }
        s.drawers.get(k).wishes.add(w);
        return s.drawers.get(k).wishes.size() <= 4;
      }
    }
  }

  int cell(int c, int what) {
    if (noCell(c) || what < 0 || what > 3) {
      return -1;
    }
    int[] answers = {now.heights[c], now.houses[c] ? 1 : 0, now.map[c], now.way().contains(c) ? 1 : 0};
    return answers[what];
  }

  int state(int what) {
    int[] answers = {now.rows, now.columns, now.hours, now.law, now.year, now.spring};
    return what < 0 || what > 5 ? -1 : answers[what];
  }

  int set(int what, int n) {
    if (what < 0 || what > 1 || n < 0 || n > (what == 0 ? 999 : 2)) {
      return -1;
    }
    int was = what == 0 ? now.hours : now.law;
    if (what == 0) {
      now.hours = n;
    } else {
      now.law = n;
    }
    return was;
  }

  int says(int c, int height) {
    if (noCell(c) || height < -1 || height > 9) {
      return -1;
    }
    int was = now.map[c];
    now.map[c] = height == -1 ? -4 : height;
    return was;
  }

  private boolean noMap(int[] told) {
    if (told.length != cells()) {
      return true;
    }
    for (int v : told) {
      if (v != 99 && (v < 0 || v > 9)) {
        return true;
      }
    }
    return false;
  }

  int map(int d) {
    if (noBytes(d) != 0) {
      return noBytes(d);
    }
    if (noMap(numbers(d))) {
      return -13;
    }
    int n = 0;
    for (int c = 0; c < cells(); c++) {
      now.map[c] = numbers(d)[c] == 99 ? -4 : numbers(d)[c];
      n += now.map[c] == -4 ? 0 : 1;
    }
    return n;
  }

  int water(int what) {
    List<Integer> way = now.way();
    int[] answers = {way.get(way.size() - 1), way.size(), now.lost() ? 1 : 0};
    return what < 0 || what > 2 ? -1 : answers[what];
  }

  int hours(int a, int b) {
    if (noCell(a) || noCell(b) || a == b) {
      return -1;
    }
    return now.canHaul(a, b) ? now.hauling(a, b) : -3;
  }

  int haul(int a, int b) {
    int h = hours(a, b);
    if (h >= 0) {
      now.heights[a]--;
      now.heights[b]++;
    }
    return h;
  }

  int like(int what) {
    if (what == 1) {
      return now.offMap();
    }
    if (what != 0) {
      return -1;
    }
    for (int c = 0; c < cells(); c++) {
      if (now.map[c] != -4 && now.map[c] != now.heights[c]) {
        return c;
      }
    }
    return -4;
  }

  int least() {
    return now.least(now.map);
  }

  int works(int d) {
    if (noBytes(d) != 0) {
      return noBytes(d);
    }
    int[] told = numbers(d);
    PlainState mind = now.twin();
    boolean wasLost = mind.lost();
    int left = mind.hours;
    int i = 0;
    while (i + 2 <= told.length) {
      if (!mind.canHaul(told[i], told[i + 1])) {
        return i;
      }
      left -= mind.hauling(told[i], told[i + 1]);
      if (left < 0) {
        return i;
      }
      mind.heights[told[i]]--;
      mind.heights[told[i + 1]]++;
      if (wasLost && !mind.lost()) {
        return i;
      }
      i += 2;
    }
    return told.length % 2 == 1 ? told.length : -4;
  }

  int dig(int what) {
    PlainState mind = now.twin();
    mind.dig();
    int[] answers = {mind.offMap(), mind.steps, mind.left};
    return what < 0 || what > 2 ? -1 : answers[what];
  }

  int drawer(int k, int what) {
    if (k < 0 || k >= now.drawers.size() || what < 0 || what > 3) {
      return -1;
    }
    PlainDrawer d = now.drawers.get(k);
    int[] answers = {d.kind, d.figure, d.wishes.size(), d.worth(now.heights)};
    return answers[what];
  }

  int draws(int k, int c) {
    if (k < 0 || k >= now.drawers.size() || noCell(c)) {
      return -1;
    }
    return now.drawn(now.drawers.get(k), now.drawers.get(k).kind)[c];
  }

  int year() {
    return now.drawers.isEmpty() ? -3 : now.pass();
  }

  int still() {
    if (now.drawers.isEmpty()) {
      return -3;
    }
    PlainState mind = now.twin();
    int[] offs = new int[60];
    for (int y = 0; y < 60; y++) {
      offs[y] = mind.pass();
    }
    int many = now.drawers.size();
    for (int n = 0; n + many <= 60; n++) {
      int sum = 0;
      for (int y = n; y < n + many; y++) {
        sum += offs[y];
      }
      if (sum == 0) {
        return n;
      }
    }
    return -4;
  }

  int rings() {
    if (now.drawers.isEmpty()) {
      return -3;
    }
    PlainState mind = now.twin();
    List<int[]> lands = new ArrayList<>();
    lands.add(mind.heights.clone());
    for (int y = 1; y <= 90; y++) {
      mind.pass();
      lands.add(mind.heights.clone());
    }
    for (int n = 1; n <= 30; n++) {
      if (java.util.Arrays.equals(lands.get(60), lands.get(60 + n))) {
        return n;
      }
    }
    return -4;
  }

  int seeded(int n, int z, int what) {
    if (n < 1 || n > 30 || what < 0 || what > 1) {
      return -1;
    }
    if (now.drawers.isEmpty()) {
      return -3;
    }
    PlainState mind = now.twin();
    int changed = 0;
    for (int y = 0; y < n; y++) {
      z = z * 1103515245 + 12345;
      long positive = z & 0x7fffffffL;
      int who = (int) (positive / 65536 % now.drawers.size());
      changed += mind.pass(who) == 0 ? 0 : 1;
    }
    return what == 0 ? mind.off(now.heights) : changed;
  }

  int seam(int d, int e, int column, boolean join) {
    if (noShelf(d) || noShelf(e) || column < 1 || column > now.columns - 1) {
      return -1;
    }
    if (shelves[d] == null || shelves[e] == null) {
      return -11;
    }
    if (noBytes(d) != 0 || noBytes(e) != 0) {
      return -12;
    }
    int[] left = numbers(d);
    int[] right = numbers(e);
    if (noMap(left) || noMap(right)) {
      return -13;
    }
    int n = 0;
    for (int r = 0; r < now.rows; r++) {
      int a = left[r * now.columns + column - 1];
      int b = right[r * now.columns + column];
      n += a != 99 && b != 99 && Math.abs(a - b) > 2 ? 1 : 0;
    }
    for (int c = 0; join && c < cells(); c++) {
      int v = c % now.columns < column ? left[c] : right[c];
      now.map[c] = v == 99 ? -4 : v;
    }
    return n;
  }

  int blot(int a, int b) {
    if (noCell(a) || noCell(b) || a == b) {
      return -1000000001;
    }
    int[] by = now.map.clone();
    by[a] = (by[a] == -4 ? now.heights[a] : by[a]) + 1;
    by[b] = (by[b] == -4 ? now.heights[b] : by[b]) - 1;
    if (by[a] > 9 || by[b] < 0) {
      return -1000000003;
    }
    int with = now.least(by);
    int without = now.least(now.map);
    return with == -4 || without == -4 ? -1000000004 : with - without;
  }

  int harm(int a, int b) {
    int refused = hours(a, b);
    if (refused < 0) {
      return -1000000000 + refused;
    }
    PlainState mind = now.twin();
    mind.heights[a]--;
    mind.heights[b]++;
    return now.worthToAll(now.heights) - now.worthToAll(mind.heights);
  }

  int chosen(int what) {
    if (what < 0 || what > 2) {
      return -1;
    }
    int many = now.drawers.size();
    if (many == 0) {
      return -3;
    }
    List<int[]> maps = new ArrayList<>();
    for (PlainDrawer d : now.drawers) {
      maps.add(now.drawn(d, d.kind));
    }
    int[] votes = new int[many];
    int best = 0;
    for (int k = 0; k < many; k++) {
      int mine = 0;
      for (int m = 0; m < many; m++) {
        if (now.drawers.get(k).worth(maps.get(m)) > now.drawers.get(k).worth(maps.get(mine))) {
          mine = m;
        }
      }
      votes[mine]++;
      if (now.worthToAll(maps.get(k)) > now.worthToAll(maps.get(best))) {
        best = k;
      }
    }
    int who = 0;
    for (int k = 0; k < many; k++) {
      who = votes[k] > votes[who] ? k : who;
    }
    return new int[] {who, votes[who], best}[what];
  }

  int judge(int d) {
    if (noShelf(d)) {
      return -1;
    }
    if (shelves[d] == null) {
      return -11;
    }
    if (!(shelves[d] instanceof PlainRow)) {
      return -12;
    }
    int[] told = numbers(d);
    int skip = new int[] {-128, -32768, Integer.MIN_VALUE}[((PlainRow) shelves[d]).sort];
    for (int c = 0; c < cells(); c++) {
      if (c == told.length) {
        return c;
      }
      if (told[c] != skip && told[c] != now.heights[c]) {
        return c;
      }
    }
    return told.length > cells() ? cells() : -4;
  }

  int image() {
    picture = now.twin();
    return now.year;
  }

  int restore() {
    if (picture == null) {
      return -3;
    }
    now = picture.twin();
    return now.year;
  }

  int count(int what) {
    int houses = 0;
    int said = 0;
    int heights = 0;
    int wishes = 0;
    for (int c = 0; c < cells(); c++) {
      houses += now.houses[c] ? 1 : 0;
      said += now.map[c] != -4 ? 1 : 0;
      heights += now.heights[c];
    }
    for (PlainDrawer d : now.drawers) {
      wishes += d.wishes.size();
    }
    int[] answers = {cells(), now.drawers.size(), houses, said, heights, wishes};
    return what < 0 || what > 5 ? -1 : answers[what];
  }

  int keep(int d, int what, int k) {
    if (noShelf(d) || what < 0 || what > 1 || (what == 1 && (k < 0 || k >= now.drawers.size()))) {
      return -1;
    }
    shelves[d] = what == 0 ? null : now.drawers.get(k).twin();
    return 0;
  }

  int row(int d, int sort, int n) {
    if (noShelf(d) || sort < 0 || sort > 2 || n > 100) {
      return -1;
    }
    if (n < 0) {
      return -14;
    }
    PlainRow row = new PlainRow();
    row.sort = sort;
    row.numbers = new int[n];
    shelves[d] = row;
    return 0;
  }

  int put(int d, int i, int v) {
    if (noShelf(d)) {
      return -1;
    }
    if (shelves[d] == null) {
      return -11;
    }
    if (!(shelves[d] instanceof PlainRow)) {
      return -12;
    }
    if (i < 0 || i >= numbers(d).length) {
      return -13;
    }
    int bits = new int[] {8, 16, 32}[((PlainRow) shelves[d]).sort];
    numbers(d)[i] = v << (32 - bits) >> (32 - bits);
    return 0;
  }

  int copy(int d, int i, int e, int j, int n) {
    if (noShelf(d) || noShelf(e)) {
      return -1;
    }
    if (shelves[d] == null || shelves[e] == null) {
      return -11;
    }
    if (!(shelves[d] instanceof PlainRow) || !(shelves[e] instanceof PlainRow)) {
      return -12;
    }
    if (((PlainRow) shelves[d]).sort != ((PlainRow) shelves[e]).sort) {
      return -12;
    }
    int[] from = numbers(d).clone();
    int[] to = numbers(e);
    if (n < 0 || i < 0 || j < 0 || (long) i + n > from.length || (long) j + n > to.length) {
      return -13;
    }
    for (int k = 0; k < n; k++) {
      to[j + k] = from[i + k];
    }
    return n;
  }

  int price(int d) {
    if (noShelf(d)) {
      return -1;
    }
    if (shelves[d] == null) {
      return -11;
    }
    return shelves[d] instanceof PlainDrawer ? ((PlainDrawer) shelves[d]).price() : -12;
  }

  int toss(int d) {
    int price = price(d);
    if (price < 0) {
      return price;
    }
    PlainDrawer thrown = (PlainDrawer) shelves[d];
    if (thrown.kind == 5 || thrown.figure == 0) {
      return -15;
    }
    if (thrown.kind == 6) {
      return 200 + price;
    }
    return thrown.kind == 4 ? 100 + thrown.number : thrown.number;
  }
}
