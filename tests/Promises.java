/** The promises of the document one by one: ordinary calls, the edges that it names, and wrong calls. */
public final class Promises extends CallTest {
  public static void main(String[] args) {
    newObject();
    lands();
    faultsOfForm();
    faultsOfSense();
    cellsAndState();
    mapSays();
    water();
    hauls();
    likeAndLeast();
    works();
    digByLaws();
    drawersWorth();
    drawsByKind();
    drawsAhead();
    years();
    stillAndRings();
    seeded();
    seams();
    blots();
    harmAndChosen();
    judges();
    images();
    counts();
    shelves();
    pricesAndTosses();
    end("all promises are kept");
  }

  private static void newObject() {
    of(1);
    fresh("");
    due("rows", x.state(0), 3);
    due("columns", x.state(1), 3);
    due("hours", x.state(2), 60);
    due("law", x.state(3), 0);
    due("year", x.state(4), 0);
    due("spring", x.state(5), 0);
    due("cells", x.count(0), 9);
    due("drawers", x.count(1), 0);
    due("houses", x.count(2), 0);
    due("said", x.count(3), 0);
    due("heights", x.count(4), 18);
    due("wishes", x.count(5), 0);
    heights("new", 2, 2, 2, 2, 2, 2, 2, 2, 2);
    for (int d = 0; d < 8; d++) {
      due("price(" + d + ")", x.price(d), -11);
    }
    due("restore()", x.restore(), -3);
  }

  private static void lands() {
    of(2);
    fresh("");
    due("no shelf", x.land(8), -1);
    due("no shelf", x.land(-1), -1);
    due("empty shelf", x.land(7), -11);
    row(1, 1, 's', '2', '2', ';');
    due("shorts", x.land(1), -12);
    row(1, 2, 's', '2', '2', ';');
    due("ints", x.land(1), -12);
    due("s24", land("s24;"), 1);
    due("rows", x.state(0), 2);
    due("columns", x.state(1), 4);
    due("all", land("g7 9;b3;q6;t999;l2;d79;w07 999;"), 7);
    due("height", x.cell(7, 0), 9);
    due("house", x.cell(3, 1), 1);
    due("spring", x.state(5), 6);
    due("hours", x.state(2), 999);
    due("law", x.state(3), 2);
    due("kind", x.drawer(0, 0), 7);
    due("figure", x.drawer(0, 1), 9);
    due("wishes", x.drawer(0, 2), 1);
    due("worth", x.drawer(0, 3), 99);
    x.keep(2, 1, 0);
    due("a drawer", x.land(2), -12);
    due("the text stays", element(0, 0), 'g');
    // Anew: heights, houses, spring, map; not hours, law.
    fresh("g0 9;b1;q2;t7;l1;");
    x.says(3, 4);
    due("anew", land("s33;"), 1);
    heights("anew", 2, 2, 2, 2, 2, 2, 2, 2, 2);
    due("houses", x.count(2), 0);
    due("spring", x.state(5), 0);
    due("said", x.count(3), 0);
    due("hours", x.state(2), 7);
    due("law", x.state(3), 1);
    due("again and smaller, larger", land("s22;s44;g15 9;s32;g5 1;"), 5);
    heights("last", 2, 2, 2, 2, 2, 1);
    due("numbers", land("t0;t9;t10;t99;t100;"), 5);
    due("hours", x.state(2), 100);
    due("six drawers", land("d00;d10;d20;d30;d40;d50;"), 6);
    due("four wishes", land("w00 11;w00 199;w05 010;w11 99;w01 99;"), 5);
    due("wishes", x.count(5), 5);
  }

  private static void fault(String text, int due) {
    due("land of \"" + text + "\"", land(text), due);
  }

  private static void faultsOfForm() {
    of(2);
    fresh("");
    fault("", -1000);
    fault("s", -1001);
    fault("s3", -1002);
    fault("s33", -1003);
    fault("s333", -1003);
    fault("S33;", -1000);
    fault(";", -1000);
    fault(" s33;", -1000);
    fault("s33;;", -1004);
    fault("s33; ", -1004);
    fault("s33;x", -1004);
    fault("s33;g", -1005);
    fault("s,33;", -1001);
    fault("g1;", -1002);
    fault("g 1;", -1001);
    fault("g1 ;", -1003);
    fault("g1 10;", -1004);
    fault("g00 1;", -1002);
    fault("g01 1;", -1002);
    fault("g1000 1;", -1004);
    fault("g100 1", -1006);
    fault("b;", -1001);
    fault("b01;", -1002);
    fault("b1 ;", -1002);
    fault("b1", -1002);
    fault("q1111;", -1004);
    fault("t-1;", -1001);
    fault("t00;", -1002);
    fault("t1000;", -1004);
    fault("l10;", -1002);
    fault("l;", -1001);
    fault("d0;", -1002);
    fault("d000;", -1003);
    fault("w00 1;", -1005);
    fault("w00 101;", -1006);
    fault("w00 1100;", -2000);
    fault("w00 10011;", -1006);
    fault("w00 11234;", -1008);
    fault("w0 1;", -1002);
    // Kind 1 of any place goes ahead of kind 2.
    fault("s99;g99 1;x", -1010);
    row(0, 0, 's', '3' + 256, '3', ';');
    due("the lowest bits", x.land(0), 1);
    row(0, 0, 's', '3', 200, ';');
    due("a byte below 0", x.land(0), -1002);
  }

  private static void faultsOfSense() {
    of(2);
    fresh("");
    fault("s13;", -2000);
    fault("s31;", -2000);
    fault("s35;", -2000);
    fault("s53;", -2000);
    fault("g8 1;g9 1;", -2005);
    fault("b8;b9;", -2003);
    fault("b999;", -2000);
    fault("b0;b1;b0;", -2006);
    fault("q9;", -2000);
    fault("l3;", -2000);
    fault("d80;", -2000);
    fault("w00 11;", -2000);
    fault("d00;w10 11;", -2004);
    fault("d00;w09 11;", -2004);
    fault("d00;w00 10;", -2004);
    fault("d00;w00 1100;", -2004);
    fault("d00;w00 11;w00 11;w00 11;w00 11;w00 11;", -2032);
    fault("d00;d00;d00;d00;d00;d00;d00;", -2024);
    fault("d00;s33;", -2004);
    // What is ahead of it counts: the smaller land has no such cell, the larger one has.
    fault("g8 1;s22;g8 1;", -2009);
    fault("s44;g15 1;s33;g15 1;", -2014);
    due("nothing came", x.count(1) + x.count(2), 0);
    heights("nothing came", 2, 2, 2, 2, 2, 2, 2, 2, 2);
    read("b4;d00;w00 11;");
    fault("b4;", -2000);
    fault("s33;", -2000);
    fault("t5;l1;q3;g0 9;w00 11;w00 11;w00 11;w00 11;", -2035);
    due("hours", x.state(2), 60);
    due("law", x.state(3), 0);
    due("spring", x.state(5), 0);
    due("height", x.cell(0, 0), 2);
    due("wishes", x.count(5), 1);
    due("a wish more", land("w00 11;"), 1);
  }

  private static void cellsAndState() {
    of(3);
    fresh("g0 5;g1 4;g2 3;b3;");
    x.says(5, 0);
    due("height", x.cell(0, 0), 5);
    due("house", x.cell(3, 1), 1);
    due("no house", x.cell(4, 1), 0);
    due("said", x.cell(5, 2), 0);
    due("unsaid", x.cell(4, 2), -4);
    due("on the way", x.cell(2, 3), 0);
    due("the spring on the way", x.cell(0, 3), 1);
    due("on the way", x.cell(3, 3), 1);
    due("no cell", x.cell(9, 0), -1);
    due("no cell", x.cell(-1, 0), -1);
    due("no what", x.cell(0, 4), -1);
    due("no what", x.cell(0, -1), -1);
    of(4);
    fresh("s42;q5;t8;l2;d00;");
    x.year();
    int[] due = {4, 2, 8, 2, 1, 5};
    for (int what = 0; what < due.length; what++) {
      due("state(" + what + ")", x.state(what), due[what]);
    }
    due("state(6)", x.state(6), -1);
    due("state(-1)", x.state(-1), -1);
    of(5);
    fresh("");
    due("hours", x.set(0, 0), 60);
    due("hours", x.set(0, 999), 0);
    due("too many hours", x.set(0, 1000), -1);
    due("too few hours", x.set(0, -1), -1);
    due("hours", x.state(2), 999);
    due("law", x.set(1, 2), 0);
    due("law", x.set(1, 1), 2);
    due("no law", x.set(1, 3), -1);
    due("no law", x.set(1, -1), -1);
    due("law", x.state(3), 1);
    due("no what", x.set(2, 1), -1);
    due("no what", x.set(-1, 1), -1);
  }

  private static void mapSays() {
    of(6);
    fresh("");
    due("says", x.says(8, 9), -4);
    due("says", x.says(8, 0), 9);
    due("unsays", x.says(8, -1), 0);
    due("unsaid", x.says(8, -1), -4);
    due("no height", x.says(8, 10), -1);
    due("no height", x.says(8, -2), -1);
    due("no height", x.says(8, -4), -1);
    due("no cell", x.says(9, 1), -1);
    due("no cell", x.says(-1, 1), -1);
    due("said", x.count(3), 0);
    of(7);
    fresh("s22;");
    row(1, 0, 0, 9, 99, 5);
    due("map", x.map(1), 3);
    due("said", x.cell(0, 2), 0);
    due("said", x.cell(1, 2), 9);
    due("unsaid", x.cell(2, 2), -4);
    row(1, 0, 99, 99, 99, 99);
    due("none said", x.map(1), 0);
    x.says(0, 3);
    row(1, 0, 1, 1, 1);
    due("too short", x.map(1), -13);
    row(1, 0, 1, 1, 1, 1, 1);
    due("too long", x.map(1), -13);
    row(1, 0, 1, 1, 1, 10);
    due("no height", x.map(1), -13);
    row(1, 0, 1, 1, 1, -1);
    due("no height", x.map(1), -13);
    due("as it was", x.cell(0, 2), 3);
    row(1, 1, 1, 1, 1, 1);
    due("shorts", x.map(1), -12);
    due("nothing", x.map(2), -11);
    due("no shelf", x.map(8), -1);
    due("no shelf", x.map(-1), -1);
  }

  private static void water() {
    of(8);
    fresh("");
    due("stands", x.water(0), 0);
    due("way", x.water(1), 1);
    due("lost", x.water(2), 1);
    due("no what", x.water(3), -1);
    due("no what", x.water(-1), -1);
    read("q4;");
    due("stands", x.water(0), 4);
    due("not lost", x.water(2), 0);
    // Of like ones up, right, down, left.
    read("g4 5;");
    due("up", x.water(0), 1);
    read("g1 3;");
    due("right", x.water(0), 5);
    read("g5 3;");
    due("down", x.water(0), 7);
    read("g7 3;");
    due("left", x.water(0), 3);
    read("g3 1;g1 2;");
    due("the lowest", x.water(0), 3);
    // A way through all heights between walls.
    fresh("s44;g0 9;g1 8;g2 7;g3 6;g7 5;g11 4;g10 3;g9 2;g8 1;g12 0;");
    read("g4 9;g5 9;g6 9;g13 9;g14 9;g15 9;");
    due("way", x.water(1), 10);
    due("stands", x.water(0), 12);
    due("lost", x.water(2), 1);
    due("on the way", x.cell(9, 3), 1);
    due("not on it", x.cell(13, 3), 0);
    read("g9 0;");
    due("way", x.water(1), 8);
    due("stands", x.water(0), 9);
    due("not lost", x.water(2), 0);
    due("not on it", x.cell(8, 3), 0);
    fresh("s24;q5;g5 3;g6 1;");
    due("all rim", x.water(2), 1);
    // A house does not keep water away.
    fresh("g1 1;b1;");
    due("at a house", x.water(0), 1);
  }

  private static void hauls() {
    of(9);
    fresh("s44;g0 1;g15 8;g3 0;g12 9;b5;");
    due("far and up", x.hours(0, 15), 12 + 7);
    due("far and down", x.hours(15, 0), 12);
    due("beside", x.hours(1, 2), 2);
    due("one up", x.hours(0, 1), 3);
    due("from nothing", x.hours(3, 2), -3);
    due("onto the top", x.hours(2, 12), -3);
    due("from a house", x.hours(5, 6), -3);
    due("to a house", x.hours(6, 5), -3);
    due("one twice", x.hours(1, 1), -1);
    due("one twice at a house", x.hours(5, 5), -1);
    due("no cell", x.hours(16, 1), -1);
    due("no cell", x.hours(1, 16), -1);
    due("no cell", x.hours(-1, 1), -1);
    due("no cell", x.hours(1, -1), -1);
    of(10);
    due("haul", x.haul(0, 15), 19);
    due("from", x.cell(0, 0), 0);
    due("to", x.cell(15, 0), 9);
    due("none left", x.haul(0, 1), -3);
    due("full", x.haul(1, 15), -3);
    due("one twice", x.haul(1, 1), -1);
    due("no cell", x.haul(1, 99), -1);
    due("at a house", x.haul(1, 5), -3);
    due("sum", x.count(4), 1 + 8 + 9 + 12 * 2);
    x.set(0, 0);
    due("hours of a year do not matter", x.haul(1, 2), 2);
  }

  private static void likeAndLeast() {
    of(11);
    fresh("");
    due("unsaid", x.like(0), -4);
    due("unsaid", x.like(1), 0);
    x.says(0, 2);
    x.says(7, 5);
    x.says(8, 0);
    due("first", x.like(0), 7);
    due("off", x.like(1), 5);
    x.says(0, 9);
    due("first", x.like(0), 0);
    due("off", x.like(1), 12);
    due("no what", x.like(2), -1);
    due("no what", x.like(-1), -1);
    of(12);
    fresh("");
    due("none to do", x.least(), 0);
    x.says(0, 1);
    due("not as many", x.least(), -4);
    x.says(8, 3);
    due("far", x.least(), 8);
    x.says(1, 3);
    due("not as many", x.least(), -4);
    x.says(2, 1);
    due("cross", x.least(), 2 + 4);
    read("b3;");
    due("a house that is not off", x.least(), 6);
    x.says(3, 2);
    due("a house that is said as it is", x.least(), 6);
    read("b8;");
    due("a house that is off", x.least(), -4);
    fresh("s24;");
    map(3, 1, 3, 1, 2, 2, 2, 2);
    due("pairs", x.least(), 4);
    map(2, 1, 3, 2, 3, 2, 2, 1);
    due("two ways that cost as much", x.least(), 8);
    // The nearest pair first (3 to 2) would leave 0 to 7: 10.
    map(1, 2, 3, 1, 2, 2, 2, 3);
    due("not the nearest pair first", x.least(), 6);
    fresh("s22;g0 9;g1 9;g2 0;g3 0;");
    map(0, 0, 9, 9);
    due("many", x.least(), 36);
    map(0, 9, 0, 9);
    due("across", x.least(), 36);
  }

  private static void works() {
    of(13);
    fresh("s22;g0 9;g1 0;g2 0;g3 0;");
    x.row(1, 0, 0);
    due("empty", x.works(1), -4);
    row(1, 0, 0, 1, 0, 1, 1, 2);
    due("all go", x.works(1), -4);
    due("in mind", x.cell(0, 0), 9);
    row(1, 0, 0, 1, 1, 2, 1, 2);
    due("the third cannot", x.works(1), 4);
    row(1, 0, 0, 1, 1, 1);
    due("one twice", x.works(1), 2);
    row(1, 0, 0, 4);
    due("no cell", x.works(1), 0);
    row(1, 0, 0, 1, -1, 0);
    due("no cell", x.works(1), 2);
    row(1, 0, 0, 1, 3);
    due("odd", x.works(1), 3);
    row(1, 0, 9);
    due("odd", x.works(1), 1);
    row(1, 0, 1, 0, 3);
    due("odd, but one cannot", x.works(1), 0);
    x.set(0, 4);
    row(1, 0, 0, 1, 0, 2);
    due("just the hours", x.works(1), -4);
    x.set(0, 3);
    due("hours overdone", x.works(1), 2);
    row(1, 0, 0, 1, 1, 0);
    // 2, then 2 and 7 uphill.
    x.set(0, 10);
    due("uphill hours", x.works(1), 2);
    x.set(0, 11);
    due("uphill hours", x.works(1), -4);
    // Water stands at the rim; a hole in the middle takes it from there.
    fresh("q1;g1 3;g4 2;");
    due("lost", x.water(2), 1);
    row(1, 0, 0, 2, 4, 8, 5, 8);
    due("not lost behind the second", x.works(1), 2);
    fresh("q4;g4 1;");
    row(1, 0, 0, 4, 1, 4, 2, 8);
    due("it was not lost at first", x.works(1), -4);
    due("nothing", x.works(5), -11);
    row(1, 2, 0, 4);
    due("ints", x.works(1), -12);
    due("no shelf", x.works(8), -1);
  }

  private static void digByLaws() {
    of(14);
    fresh("");
    dug(0, 0, 60);
    due("dig(3)", x.dig(3), -1);
    due("dig(-1)", x.dig(-1), -1);
    map(1, 2, 3, 99, 99, 99, 99, 99, 99);
    dug(0, 1, 56);
    x.set(0, 4);
    dug(0, 1, 0);
    x.set(0, 3);
    dug(2, 0, 3);
    x.set(1, 1);
    dug(2, 0, 3);
    x.set(0, 60);
    x.says(2, 5);
    dug(2, 1, 56);
    x.set(1, 0);
    dug(4, 0, 60);
    x.set(1, 1);
    read("b2;");
    dug(4, 0, 60);
    heights("in mind", 2, 2, 2, 2, 2, 2, 2, 2, 2);
    // The least near first, then the higher one's number, then the other's.
    fresh("s24;l1;t2;g1 3;g2 3;");
    map(3, 2, 2, 3, 2, 3, 2, 2);
    due("least is 4", x.least(), -4);
    dug(4 - 1, 1, 0);
    x.set(0, 4);
    dug(5 - 4, 2, 0);
    x.set(0, 5);
    dug(1, 2, 1);
    fresh("s24;l1;t2;d50;g1 3;");
    map(3, 2, 3, 2, 2, 3, 2, 2);
    x.year();
    heights("first by the other's number", 3, 2, 2, 2, 2, 2, 2, 2);
    fresh("s24;l1;t2;d50;g1 3;g2 3;");
    map(2, 2, 2, 2, 2, 3, 3, 2);
    x.year();
    heights("first by the number it is taken from", 2, 2, 3, 2, 2, 3, 2, 2);
    // Law 1 does not look ahead: 3 to 2 leaves 0 to 7.
    fresh("s24;l1;");
    map(1, 2, 3, 1, 2, 2, 2, 3);
    dug(0, 2, 50);
    x.set(1, 0);
    dug(0, 2, 54);
    x.set(1, 1);
    map(1, 2, 2, 3, 2, 2, 2, 2);
    dug(0, 1, 54);
    lostStays();
  }

  private static void lostStays() {
    // Spring 1 stands at the rim (cell 0 is lowest); law 2 must not let the middle be the end.
    fresh("l2;q1;g1 3;");
    due("lost", x.water(2), 1);
    due("stands", x.water(0), 2);
    map(99, 99, 99, 99, 1, 99, 99, 3, 99);
    dug(2, 0, 60);
    x.set(1, 1);
    dug(0, 1, 58);
    x.set(1, 2);
    // The pairs 4, 7 and 4, 8 are undone; 0 to 7 goes.
    map(1, 99, 99, 99, 1, 99, 99, 3, 3);
    dug(2, 1, 54);
    map(1, 99, 99, 99, 1, 99, 99, 4, 99);
    dug(2, 1, 54);
    // Water that was not lost may go anywhere.
    fresh("l2;q4;g4 1;");
    due("not lost", x.water(2), 0);
    map(1, 99, 99, 99, 2, 99, 99, 99, 99);
    dug(0, 1, 56);
    // A step may be undone behind others that went: down to 2 the rim still takes it.
    fresh("l2;q1;g1 5;g4 4;g0 2;");
    map(99, 99, 99, 99, 0, 99, 99, 6, 99);
    due("lost", x.water(2), 1);
    dug(4, 2, 56);
  }

  private static void drawersWorth() {
    of(15);
    fresh("d35;d00;w04 499;w04 450;w00 215;w08 599;w13 01;");
    due("kind", x.drawer(0, 0), 3);
    due("figure", x.drawer(0, 1), 5);
    due("wishes", x.drawer(0, 2), 4);
    due("worth", x.drawer(0, 3), 79 + 30 + 15 + 69);
    due("worth is 0 at least", x.drawer(1, 3), 0);
    due("no drawer", x.drawer(2, 0), -1);
    due("no drawer", x.drawer(-1, 0), -1);
    due("no what", x.drawer(0, 4), -1);
    due("no what", x.drawer(0, -1), -1);
  }

  private static void drawsByKind() {
    of(16);
    // DRAWER draws the land as it is.
    fresh("s22;d00;w00 399;");
    drawn(0, 2, 2, 2, 2);
    due("no drawer", x.draws(1, 0), -1);
    due("no drawer", x.draws(-1, 0), -1);
    due("no cell", x.draws(0, 4), -1);
    due("no cell", x.draws(0, -1), -1);
    // OWN: the first to give.
    fresh("s22;d10;w02 399;");
    drawn(0, 1, 2, 3, 2);
    read("b0;");
    drawn(0, 2, 1, 3, 2);
    read("b2;");
    drawn(0, 2, 2, 2, 2);
    // OWN: nothing is better than the land as it is.
    fresh("s22;d10;w02 299;");
    drawn(0, 2, 2, 2, 2);
    // OWN: both ends of the haul count; the first to get.
    fresh("s22;d10;w03 199;");
    drawn(0, 3, 2, 2, 1);
    read("w02 399;");
    drawn(0, 2, 2, 3, 1);
    // OWN does not mind others, ALL does.
    fresh("s22;d10;d20;w00 110;w11 150;w10 250;w01 39;");
    drawn(0, 1, 3, 2, 2);
    fresh("s22;d10;d20;w00 150;w10 299;w11 130;w12 330;");
    drawn(0, 1, 3, 2, 2);
    drawn(1, 2, 1, 3, 2);
    // ALL for a drawer that has no wishes.
    fresh("s22;d20;d10;w13 330;");
    drawn(0, 1, 2, 2, 3);
    smallOnes();
    toldOnes();
  }

  private static void smallOnes() {
    // SMALL: gains 10 whoever gives, so the nearest; then the first.
    fresh("d30;w08 399;");
    drawn(0, 2, 2, 2, 2, 2, 1, 2, 2, 3);
    fresh("d30;w08 39;");
    due("a wish of 9 is worth 0 before", x.drawer(0, 3), 0);
    drawn(0, 2, 2, 2, 2, 2, 1, 2, 2, 3);
    fresh("d30;w08 32;");
    drawn(0, 2, 2, 2, 2, 2, 2, 2, 2, 2);
    fresh("d30;w08 33;");
    drawn(0, 2, 2, 2, 2, 2, 1, 2, 2, 3);
    // SMALL pays uphill hours too: from as high a cell farther off.
    fresh("s24;d30;g0 3;g3 4;g1 0;g2 0;g4 0;g5 3;g6 0;g7 0;w00 499;");
    drawn(0, 4, 0, 0, 4, 0, 2, 0, 0);
    fresh("s24;d30;g0 5;g1 1;g5 1;g4 1;g2 5;w00 699;");
    drawn(0, 6, 1, 4, 2, 1, 1, 2, 2);
    // COPY: as SMALL, but only near ones.
    fresh("s24;d71;g0 5;g1 1;g5 1;g4 1;g2 5;w00 699;");
    drawn(0, 6, 0, 5, 2, 1, 1, 2, 2);
    fresh("s24;d70;g0 5;g1 1;w00 699;");
    drawn(0, 5, 1, 2, 2, 2, 2, 2, 2);
    fresh("s24;d72;g0 5;g1 1;g5 1;g4 1;g2 5;w00 699;");
    drawn(0, 6, 1, 4, 2, 1, 1, 2, 2);
  }

  private static void toldOnes() {
    of(16);
    fresh("s22;d50;d63;d64;d60;");
    drawn(0, 2, 2, 2, 2);
    drawn(1, 2, 2, 2, 1);
    drawn(2, 2, 2, 2, 2);
    x.says(3, 9);
    x.says(0, 0);
    drawn(0, 0, 2, 2, 9);
    drawn(1, 0, 2, 2, 8);
    drawn(2, 0, 2, 2, 9);
    drawn(3, 0, 2, 2, 9);
    due("the map stays as it is said", x.count(3), 2);
  }

  private static void drawsAhead() {
    of(16);
    // The next one takes from cell 0 for its 2: one more there makes it up.
    fresh("s22;d40;d10;w00 330;w12 350;");
    drawn(0, 3, 1, 2, 2);
    // As it is the next hauls 0 to 2 (40); by 1 to 0 cell 0 is as wished behind that (50); 1 to 2 (50) comes later.
    fresh("s22;t60;d40;d10;w00 250;w12 399;");
    drawn(0, 3, 1, 2, 2);
    // With no hours the next one's map isn't dug, so that the land as it is is best.
    x.set(0, 1);
    drawn(0, 2, 2, 2, 2);
    x.set(0, 2);
    drawn(0, 3, 1, 2, 2);
    // A lone one is its own next.
    fresh("s22;d40;w00 450;");
    drawn(0, 3, 1, 2, 2);
    fresh("s22;d40;w00 350;");
    // As it is it would haul next year anyway: the land as it is goes ahead.
    drawn(0, 2, 2, 2, 2);
    // The last one's next is the first; of whatever kind, it draws by OWN.
    fresh("s22;d50;d40;w02 399;w10 250;");
    drawn(1, 3, 1, 2, 2);
    // Under law 2 the next one's haul is undone where water would cease to be lost.
    fresh("l2;q1;g1 3;d40;d10;w04 250;w14 199;");
    due("lost", x.water(2), 1);
    drawn(0, 2, 3, 2, 2, 2, 2, 2, 2, 2);
    x.set(1, 1);
    // Then it must keep the next from it: by lifting the cell to 3, so that it comes back to 2.
    drawn(0, 1, 3, 2, 2, 3, 2, 2, 2, 2);
  }

  private static void years() {
    of(17);
    fresh("");
    due("no drawers", x.year(), -3);
    due("year", x.state(4), 0);
    fresh("s22;d10;d50;d00;w00 499;");
    due("a haul", x.year(), 2);
    heights("behind one", 3, 1, 2, 2);
    due("its map is the map", x.count(3), 4);
    due("its map is the map", x.cell(0, 2), 3);
    due("year", x.state(4), 1);
    x.says(1, 2);
    x.says(2, 1);
    due("told", x.year(), 2);
    heights("behind two", 3, 2, 1, 2);
    due("as it is", x.year(), 0);
    due("the first again", x.year(), 2);
    heights("behind four", 4, 1, 1, 2);
    due("content", x.state(4), 4);
    x.set(0, 1);
    read("w03 599;");
    due("no hours", x.year(), 0);
    due("year", x.state(4), 5);
    due("told", x.cell(0, 2), 4);
    // A map that is not dug still is the map.
    fresh("s22;t1;d10;w00 499;");
    due("no hours", x.year(), 0);
    due("told", x.cell(0, 2), 3);
    due("told", x.cell(1, 2), 1);
  }

  private static void stillAndRings() {
    of(18);
    fresh("");
    due("no drawers", x.still(), -3);
    fresh("s22;d00;");
    due("at once", x.still(), 0);
    fresh("s22;d10;w00 499;");
    due("behind two", x.still(), 2);
    due("in mind", x.cell(0, 0), 2);
    due("in mind", x.state(4), 0);
    x.year();
    due("behind one more", x.still(), 1);
    // Two who pull for ever.
    fresh("s22;d10;d10;w00 399;w10 299;");
    due("never", x.still(), -4);
    // As many years as drawers: the second one's turn comes later.
    fresh("s22;d00;d10;d00;w10 399;");
    due("behind the second's year", x.still(), 2);
    // By lessening: the year that has gone by counts.
    x.year();
    due("behind the second's year", x.still(), 1);
    // 29 steps by the second of two: 58 years and two quiet ones are just 60; 30 steps are too many.
    fresh("s44;d00;d10;w112 999;w113 999;w114 999;w115 999;g15 1;g0 9;");
    due("60 in all", x.still(), 58);
    read("g15 0;");
    due("more than 60", x.still(), -4);
    of(19);
    fresh("");
    due("no drawers", x.rings(), -3);
    fresh("s22;d00;");
    due("one", x.rings(), 1);
    fresh("s22;d10;d10;w00 399;w10 299;");
    due("two", x.rings(), 2);
    due("in mind", x.cell(0, 0), 2);
    fresh("s22;d10;d10;d00;w00 399;w10 299;");
    due("two of three", x.rings(), 2);
    x.year();
    due("three of three", x.rings(), 3);
    x.year();
    due("one of three", x.rings(), 1);
  }

  private static void seeded() {
    of(20);
    fresh("");
    due("no drawers", x.seeded(1, 5, 0), -3);
    due("no what", x.seeded(1, 5, 2), -1);
    fresh("s22;d10;d00;w00 499;");
    due("n 0", x.seeded(0, 5, 0), -1);
    due("n 31", x.seeded(31, 5, 0), -1);
    due("no what", x.seeded(1, 5, -1), -1);
    due("no what", x.seeded(1, 5, 2), -1);
    due("off", x.seeded(30, 5, 0), 4);
    due("changed", x.seeded(30, 5, 1), 2);
    due("in mind", x.cell(0, 0), 2);
    due("in mind", x.state(4), 0);
    // Every seed and the drawer that it draws first, of two.
    int[] seeds = {0, 1, 2, 5, -1, 77, Integer.MAX_VALUE, Integer.MIN_VALUE};
    for (int z : seeds) {
      int drawn = z * 1103515245 + 12345;
      int who = (drawn & 0x7fffffff) / 65536 % 2;
      due("seeded(1, " + z + ", 1)", x.seeded(1, z, 1), who == 0 ? 1 : 0);
      due("seeded(1, " + z + ", 0)", x.seeded(1, z, 0), who == 0 ? 2 : 0);
    }
  }

  private static void seams() {
    of(21);
    fresh("s33;");
    row(1, 0, 1, 5, 9, 1, 99, 9, 1, 0, 9);
    row(2, 0, 0, 0, 2, 0, 0, 9, 0, 0, 3);
    due("column 2", x.seam(1, 2, 2, false), 2);
    due("not joined", x.count(3), 0);
    due("column 1", x.seam(1, 2, 1, false), 0);
    due("column 1", x.seam(2, 1, 1, false), 1);
    due("joined", x.seam(1, 2, 2, true), 2);
    int[] due = {1, 5, 2, 1, -4, 9, 1, 0, 3};
    for (int c = 0; c < due.length; c++) {
      due("cell(" + c + ", 2)", x.cell(c, 2), due[c]);
    }
    due("one with itself", x.seam(1, 1, 1, false), 1);
    due("column 0", x.seam(1, 2, 0, false), -1);
    due("column 3", x.seam(1, 2, 3, true), -1);
    due("no shelf", x.seam(8, 2, 1, true), -1);
    due("no shelf", x.seam(1, -1, 1, true), -1);
    due("nothing", x.seam(1, 3, 1, true), -11);
    due("nothing", x.seam(3, 1, 1, true), -11);
    row(4, 1, 1, 1, 1, 1, 1, 1, 1, 1, 1);
    due("shorts", x.seam(1, 4, 1, true), -12);
    due("shorts", x.seam(4, 1, 1, true), -12);
    due("nothing goes ahead of shorts", x.seam(4, 3, 1, true), -11);
    row(5, 0, 1, 1);
    due("shorts go ahead of too short", x.seam(5, 4, 1, true), -12);
    due("too short", x.seam(1, 5, 1, true), -13);
    due("too short", x.seam(5, 1, 1, true), -13);
    row(5, 0, 0, 0, 0, 0, 0, 0, 0, 0, 10);
    due("no height", x.seam(5, 1, 1, true), -13);
    due("no height", x.seam(1, 5, 1, true), -13);
    due("as it was", x.cell(0, 2), 1);
    due("the rows stay", element(1, 1), 5);
  }

  private static void blots() {
    of(22);
    fresh("");
    due("of the land as it is", x.blot(0, 8), 8);
    due("one twice", x.blot(1, 1), -1000000001);
    due("no cell", x.blot(9, 1), -1000000001);
    due("no cell", x.blot(1, -1), -1000000001);
    x.says(0, 1);
    x.says(8, 3);
    due("less than before", x.blot(0, 8), -8);
    due("farther", x.blot(8, 0), 8);
    due("a nearer one", x.blot(0, 1), -2);
    x.says(0, 9);
    due("beyond 9", x.blot(0, 1), -1000000003);
    x.says(0, 0);
    due("below 0", x.blot(1, 0), -1000000003);
    due("not as many", x.blot(1, 2), -1000000004);
    due("said only", x.count(3), 2);
    fresh("g0 9;g1 0;b2;");
    due("beyond 9", x.blot(0, 3), -1000000003);
    due("below 0", x.blot(3, 1), -1000000003);
    due("a house", x.blot(2, 3), -1000000004);
    due("a house", x.blot(3, 2), -1000000004);
    x.says(2, 3);
    x.says(3, 1);
    due("a house is off before", x.blot(3, 2), -1000000004);
  }

  private static void harmAndChosen() {
    of(23);
    fresh("d10;d00;w00 250;w14 320;w10 311;");
    // Now 50 and 10 and 1; then 40 and 20 and 0 (not below); the other way 40 and 0 and 11.
    due("harm", x.harm(0, 4), 1);
    due("in mind", x.cell(0, 0), 2);
    due("harm", x.harm(4, 0), 10);
    due("below 0", x.harm(8, 4), -10);
    due("one twice", x.harm(0, 0), -1000000001);
    due("no cell", x.harm(0, 9), -1000000001);
    read("b4;");
    due("a house", x.harm(0, 4), -1000000003);
    fresh("");
    due("for nobody", x.harm(0, 1), 0);
    of(24);
    due("no drawers", x.chosen(0), -3);
    due("no what", x.chosen(3), -1);
    due("no what", x.chosen(-1), -1);
    // Each is for itself: the least.
    fresh("s22;d10;d10;w00 330;w11 390;");
    due("who", x.chosen(0), 0);
    due("how many", x.chosen(1), 1);
    due("best", x.chosen(2), 0);
    // The first two draw the land as it is; the third is for itself, the fourth too for that.
    fresh("s22;d00;d00;d10;d00;w23 330;w33 350;");
    due("who", x.chosen(0), 0);
    due("how many", x.chosen(1), 2);
    due("best", x.chosen(2), 2);
    read("w13 311;");
    due("who", x.chosen(0), 2);
    due("how many", x.chosen(1), 3);
    // Maps are made wholly: hours do not matter.
    x.set(0, 0);
    due("how many", x.chosen(1), 3);
  }

  private static void judges() {
    of(25);
    fresh("s22;g0 9;");
    row(1, 0, 9, 2, 2, 2);
    due("all so", x.judge(1), -4);
    row(1, 0, 9, 2, 2, 3);
    due("the last not", x.judge(1), 3);
    row(1, 0, 99, 2, 2, 2);
    due("99 is no height here", x.judge(1), 0);
    row(1, 0, -128, -128, 2, 2);
    due("skipped", x.judge(1), -4);
    row(1, 1, -128, 2, 2, 2);
    due("not the least short", x.judge(1), 0);
    row(1, 1, -32768, 2, 2, 2);
    due("the least short", x.judge(1), -4);
    row(1, 2, -32768, 2, 2, 2);
    due("not the least int", x.judge(1), 0);
    row(1, 2, Integer.MIN_VALUE, 2, 2, 2);
    due("the least int", x.judge(1), -4);
    row(1, 0, 9, 2);
    due("short", x.judge(1), 2);
    x.row(1, 0, 0);
    due("empty", x.judge(1), 0);
    row(1, 0, 9, 2, 2, 2, 2);
    due("long", x.judge(1), 4);
    row(1, 0, 9, 0, 2, 2, 2);
    due("long, but one not so", x.judge(1), 1);
    due("nothing", x.judge(2), -11);
    due("no shelf", x.judge(8), -1);
    read("d00;");
    x.keep(3, 1, 0);
    due("a drawer", x.judge(3), -12);
  }

  private static void images() {
    of(26);
    fresh("s24;g0 7;b1;q2;t9;l1;d19;d50;w00 910;");
    x.says(3, 3);
    due("the year", x.image(), 0);
    x.year();
    x.year();
    due("the year", x.image(), 2);
    of(27);
    x.year();
    due("the last image", x.restore(), 2);
    due("the year", x.state(4), 2);
    fresh("s24;g0 7;b1;q2;t9;l1;d19;d50;w00 910;");
    x.says(3, 3);
    x.image();
    x.year();
    x.haul(4, 5);
    x.set(0, 5);
    x.set(1, 2);
    read("b2;q3;d33;w10 19;w00 19;");
    x.keep(4, 1, 2);
    for (int time = 0; time < 2; time++) {
      due("the year", x.restore(), 0);
      heights("restored", 7, 2, 2, 2, 2, 2, 2, 2);
      due("rows", x.state(0), 2);
      due("hours", x.state(2), 9);
      due("law", x.state(3), 1);
      due("year", x.state(4), 0);
      due("spring", x.state(5), 2);
      due("drawers", x.count(1), 2);
      due("houses", x.count(2), 1);
      due("said", x.count(3), 1);
      due("wishes", x.count(5), 1);
      due("worth", x.drawer(0, 3), 0);
      due("the shelf stays", x.price(4), 6);
      due("the shelf stays", x.toss(4), 2);
      read("w00 720;w00 720;d77;g0 1;q0;");
    }
    // A land of another size comes back whole.
    fresh("s44;g15 9;q15;");
    x.image();
    read("s22;g3 8;");
    due("the year", x.restore(), 0);
    due("cells", x.count(0), 16);
    due("height", x.cell(15, 0), 9);
    due("spring", x.state(5), 15);
    due("near", x.hours(15, 0), 12);
    due("water", x.water(0), 11);
  }

  private static void counts() {
    of(28);
    fresh("s42;g0 9;g1 0;b3;b4;d00;d11;w00 11;w10 11;w11 11;");
    x.says(0, 0);
    int[] due = {8, 2, 2, 1, 21, 3};
    for (int what = 0; what < due.length; what++) {
      due("count(" + what + ")", x.count(what), due[what]);
    }
    due("count(6)", x.count(6), -1);
    due("count(-1)", x.count(-1), -1);
  }

  private static void shelves() {
    of(29);
    fresh("d19;");
    due("keep", x.keep(7, 1, 0), 0);
    due("price", x.price(7), 14);
    due("no drawer", x.keep(7, 1, 1), -1);
    due("no drawer", x.keep(7, 1, -1), -1);
    due("no what", x.keep(7, 2, 0), -1);
    due("no what", x.keep(7, -1, 0), -1);
    due("no shelf", x.keep(8, 0, 0), -1);
    due("no shelf", x.keep(-1, 1, 0), -1);
    due("as it was", x.price(7), 14);
    due("nothing", x.keep(7, 0, -99), 0);
    due("nothing", x.price(7), -11);
    of(30);
    due("row", x.row(7, 2, 100), 0);
    due("too long", x.row(7, 2, 101), -1);
    due("below 0", x.row(7, 2, -1), -14);
    due("no sort goes first", x.row(7, 3, -1), -1);
    due("no sort", x.row(7, -1, 1), -1);
    due("no shelf goes first", x.row(8, 0, -1), -1);
    due("still 100", x.put(7, 99, 3), 0);
    due("anew", x.row(7, 2, 100), 0);
    due("anew", element(7, 99), 0);
    due("empty", x.row(7, 0, 0), 0);
    due("no place", element(7, 0), NO_ELEMENT);
    of(31);
    row(1, 0, 127, 128, 255, 256, -129);
    row(2, 1, 32767, 32768, 65535, 65536, -32769);
    row(3, 2, Integer.MAX_VALUE, Integer.MIN_VALUE);
    long[][] due = {{127, -128, -1, 0, 127}, {32767, -32768, -1, 0, 32767}, {Integer.MAX_VALUE, Integer.MIN_VALUE}};
    for (int d = 0; d < 3; d++) {
      for (int i = 0; i < due[d].length; i++) {
        due("element(" + (d + 1) + ", " + i + ")", element(d + 1, i), due[d][i]);
      }
    }
    due("no place", x.put(1, 5, 0), -13);
    due("no place", x.put(1, -1, 0), -13);
    x.keep(6, 0, 0);
    due("nothing", x.put(6, 0, 0), -11);
    x.keep(6, 1, 0);
    due("a drawer", x.put(6, 0, 0), -12);
    due("no shelf", x.put(8, 0, 0), -1);
    of(32);
    due("no place", element(1, 5), NO_ELEMENT);
    due("no place", element(1, -1), NO_ELEMENT);
    due("a drawer", element(6, 0), NO_ELEMENT);
    x.keep(6, 0, 0);
    due("nothing", element(6, 0), NO_ELEMENT);
    due("no shelf", element(8, 0), NO_SHELF);
    due("no shelf", element(-1, 0), NO_SHELF);
    copies();
  }

  private static void copies() {
    of(33);
    fresh("d00;");
    row(1, 0, 1, 2, 3, 4, 5);
    row(2, 0, 9, 9, 9);
    due("copy", x.copy(1, 3, 2, 1, 2), 2);
    due("copied", element(2, 0), 9);
    due("copied", element(2, 1), 4);
    due("copied", element(2, 2), 5);
    due("over itself", x.copy(1, 0, 1, 1, 4), 4);
    for (int i = 0; i < 5; i++) {
      due("over itself", element(1, i), i == 0 ? 1 : i);
    }
    due("back over itself", x.copy(1, 2, 1, 0, 3), 3);
    due("over itself", element(1, 0), 2);
    due("over itself", element(1, 2), 4);
    due("none", x.copy(1, 5, 2, 3, 0), 0);
    due("none, but no place", x.copy(1, 6, 2, 0, 0), -13);
    due("below 0", x.copy(1, 0, 2, 0, -1), -13);
    due("no place", x.copy(1, 4, 2, 0, 2), -13);
    due("no place", x.copy(1, 0, 2, 2, 2), -13);
    due("no place", x.copy(1, -1, 2, 0, 1), -13);
    due("no place", x.copy(1, 0, 2, -1, 1), -13);
    due("far off", x.copy(1, Integer.MAX_VALUE, 2, 0, 1), -13);
    due("far off", x.copy(1, 1, 2, 0, Integer.MAX_VALUE), -13);
    row(3, 1, 1, 2);
    due("of two sorts", x.copy(1, 0, 3, 0, 1), -12);
    due("sorts go ahead of places", x.copy(3, 9, 1, 0, 1), -12);
    x.keep(4, 1, 0);
    due("a drawer", x.copy(4, 0, 1, 0, 1), -12);
    due("a drawer", x.copy(1, 0, 4, 0, 1), -12);
    due("nothing", x.copy(4, 0, 5, 0, 1), -11);
    due("nothing", x.copy(5, 0, 4, 0, 1), -11);
    due("no shelf", x.copy(5, 0, 8, 0, 1), -1);
    due("no shelf", x.copy(-1, 0, 5, 0, 1), -1);
  }

  private static void priced(int shelf, int price, int toss) {
    of(34);
    due("price(" + shelf + ")", x.price(shelf), price);
    of(35);
    due("toss(" + shelf + ")", x.toss(shelf), toss);
  }

  private static void pricesAndTosses() {
    fresh("d04;d14;d24;d34;d44;d54;");
    int[] prices = {5, 9, 27, 7, 29, 4};
    int[] tosses = {0, 1, 2, 3, 104, -15};
    for (int k = 0; k < 6; k++) {
      x.keep(k + 1, 1, k);
      priced(k + 1, prices[k], tosses[k]);
    }
    fresh("d64;d74;d73;d60;d40;d70;");
    int[] others = {16, 3, 3, 0, 25, 1};
    int[] thrown = {216, 1, 2, -15, -15, -15};
    for (int k = 0; k < 6; k++) {
      x.keep(k + 1, 1, k);
      priced(k + 1, others[k], thrown[k]);
    }
    fresh("d00;d69;d01;d10;d41;");
    int[] last = {5, 36, 5, 5, 26};
    int[] ends = {-15, 236, 2, -15, 104};
    for (int k = 0; k < 5; k++) {
      x.keep(1, 1, k);
      priced(1, last[k], ends[k]);
    }
    x.row(1, 0, 1);
    priced(1, -12, -12);
    priced(2, -11, -11);
    priced(8, -1, -1);
    priced(-1, -1, -1);
  }
}
