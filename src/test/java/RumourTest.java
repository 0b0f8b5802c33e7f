/** Promises 20 to 28: rumours, the ledger, carts, years, what is kept, counts. */
public final class RumourTest {
  private static final Check check = new Check("RumourTest");
  private static final int BAD = PennyPlanks.BAD, NO = PennyPlanks.NO;
  private static final int FULL = PennyPlanks.FULL, NONE = PennyPlanks.NONE;
  private static final String THIEVES = "i2;d1;b0,1,5;g0,1,1,3,0;g0,1,2,2,3;";

  public static void main(String[] args) {
    rumour();
    rumourOfFallen();
    rumourOfFaithful();
    entering();
    closing();
    spanning();
    carts();
    years();
    yearsBad();
    keeping();
    counting();
    check.end();
  }

  private static void rumour() {
    String text = "i3;d1;b0,1,9;b1,2,9;b0,2,9;g0,2,1,9,0;g2,0,1,9,0;g1,0,1,9,0;";
    PennyPlanks x = Check.laid(text);
    int[] heard = {1, 1, 5, 7, 7};
    for (int n = 0; n < heard.length; n++) check.due("heard " + n, x.rumour(0, 2, n, 0), heard[n]);
    check.due("planks 0", x.rumour(0, 2, 0, 1), 9);
    check.due("planks 1", x.rumour(0, 2, 1, 1), 9);
    check.due("planks 1 without", x.planks(1, 2), 18);
    check.due("planks 2", x.rumour(0, 2, 2, 1), 9);
    check.due("heard 60", x.rumour(0, 2, 60, 0), 7);
    check.due("nothing changes", x.count(4), 0);
    check.due("nobody has heard", x.goer(0, 6), 2);
    // All on one island: they hear at the end of the first day, not now.
    PennyPlanks one = Check.laid("i2;d1;b0,1,9;b0,1,0;g0,1,1,9,0;g0,1,1,9,0;");
    check.due("together now", one.rumour(1, 1, 0, 0), 2);
    check.due("together then", one.rumour(1, 1, 1, 0), 3);
    check.due("apart", one.rumour(1, 0, 1, 0), 2);
    int[][] bad = {{-1, 0, 1, 0}, {3, 0, 1, 0}, {0, -1, 1, 0}, {0, 3, 1, 0}, {0, 0, -1, 0},
      {0, 0, 61, 0}, {0, 0, 1, -1}, {0, 0, 1, 2}};
    for (int[] v : bad) check.due("bad", x.rumour(v[0], v[1], v[2], v[3]), BAD);
  }

  private static void rumourOfFallen() {
    PennyPlanks x = Check.laid(THIEVES);
    x.days(2);
    check.due("fallen tells nobody", x.rumour(1, 0, 5, 0), 2);
    check.due("fallen hears nothing", x.rumour(0, 0, 5, 0), 1);
  }

  private static void rumourOfFaithful() {
    // He takes no way by the weak bridge, but it is still the lowest one beside him.
    PennyPlanks x = Check.laid("i3;d1;b0,1,9;b0,2,9;g0,1,1,6,4;");
    check.due("weak", x.rumour(0, 0, 1, 1), 6);
    check.due("weak, 3", x.rumour(0, 0, 3, 1), 6);
    check.due("other", x.rumour(0, 1, 1, 1), 0);
  }

  private static void entering() {
    PennyPlanks x = new PennyPlanks();
    int[][] bad = {{-1, 0, 1}, {3, 0, 1}, {0, -1, 1}, {0, 100, 1}, {0, 0, 0}, {0, 0, 81},
      {0, 0, -1}, {Integer.MAX_VALUE, 0, 1}};
    for (int[] v : bad) check.due("bad", x.enter(v[0], v[1], v[2], true), BAD);
    check.due("none", x.count(6), 0);
    for (int k = 1; k <= 8; k++) check.due("row", x.enter(2, 99, 80, k % 2 == 0), k);
    check.due("full", x.enter(0, 0, 1, true), FULL);
    check.due("full and bad", x.enter(0, 0, 81, true), BAD);
    check.due("eight", x.count(6), 8);
    check.due("no row of it", x.span(0, 0, 0), 0);
  }

  private static void closing() {
    PennyPlanks x = new PennyPlanks();
    check.due("close none", x.close(), 0);
    x.enter(0, 3, 5, true);
    x.enter(0, 3, 9, true);
    check.due("close", x.close(), 2);
    check.due("close again", x.close(), 0);
    check.due("rows", x.count(6), 0);
    check.due("span", x.span(0, 3, 0), 0);
    check.due("enter", x.enter(0, 3, 7, false), 1);
    check.due("span then", x.span(0, 3, 1), 6);
    check.due("least then", x.span(0, 3, 0), 0);
  }

  private static void span(PennyPlanks x, int b, int t, int least, int most) {
    check.due("least " + b + " " + t, x.span(b, t, 0), least);
    check.due("most " + b + " " + t, x.span(b, t, 1), most);
  }

  private static void spanning() {
    PennyPlanks x = new PennyPlanks();
    span(x, 0, 0, 0, 99);
    x.enter(0, 3, 5, true);
    x.enter(0, 3, 80, false);
    span(x, 0, 3, 5, 79);
    x.enter(0, 3, 4, true);
    x.enter(0, 3, 80, false);
    span(x, 0, 3, 5, 79);
    x.enter(0, 3, 6, false);
    span(x, 0, 3, 5, 5);
    x.enter(0, 3, 5, false);
    span(x, 0, 3, NONE, NONE);
    span(x, 1, 3, 0, 99);
    span(x, 0, 4, 0, 99);
    x.enter(1, 3, 1, false);
    span(x, 1, 3, 0, 0);
    x.enter(2, 99, 80, true);
    span(x, 2, 99, 80, 99);
    x.days(1);
    span(x, 0, 3, NONE, NONE);
    int[][] bad = {{-1, 0, 0}, {3, 0, 0}, {0, -1, 0}, {0, 100, 0}, {0, 0, -1}, {0, 0, 2},
      {0, 3, 2}};
    for (int[] v : bad) check.due("bad", x.span(v[0], v[1], v[2]), BAD);
  }

  private static void carts() {
    PennyPlanks x = Check.laid("i2;d1;b0,1,20;b0,1,5;g0,1,1,9,0;g0,1,1,6,3;");
    check.due("nothing stolen", x.cart(1, 0, 0), 0);
    check.due("none", x.cart(1, 0, 1), NONE);
    x.put(1, 12);
    x.days(1);
    // Bridge 0 shows 9 and has 3; bridge 1 has 12.
    check.due("many", x.cart(1, 0, 0), 3);
    check.due("least", x.cart(1, 0, 1), 2);
    check.due("many the other way", x.cart(0, 1, 0), 0);
    check.due("least the other way", x.cart(0, 1, 1), NONE);
    x.undo();
    x.undo();
    x.put(1, 7);
    x.days(1);
    check.due("fewer", x.cart(1, 0, 0), 2);
    check.due("least of fewer", x.cart(1, 0, 1), 2);
    cartEdges();
    // 99 planks bear the heaviest cart of 80; bridge 0 shows 99 and has 93.
    PennyPlanks rich = Check.laid("i2;d1;b0,1,20;b0,1,5;g0,1,1,20,3;");
    rich.put(0, 90);
    rich.put(1, 99);
    rich.days(1);
    check.due("heaviest", rich.cart(1, 0, 0), 5);
    check.due("least of heaviest", rich.cart(1, 0, 1), 36);
    int[][] bad = {{0, 0, 0}, {1, 1, 1}, {-1, 0, 0}, {2, 0, 0}, {0, -1, 0}, {0, 2, 0}, {0, 1, -1},
      {0, 1, 2}};
    for (int[] v : bad) check.due("bad", x.cart(v[0], v[1], v[2]), BAD);
  }

  private static void cartEdges() {
    // Bridge 0 shows 8 and has 0.
    PennyPlanks x = Check.laid("i2;d1;b0,1,20;b0,1,5;g0,1,1,8,3;");
    x.put(0, 8);
    x.put(1, 20);
    x.days(1);
    check.due("1 to 4", x.cart(1, 0, 0), 4);
    check.due("1", x.cart(1, 0, 1), 1);
    x.undo();
    x.undo();
    x.put(1, 6);
    x.days(1);
    check.due("1 to 3", x.cart(1, 0, 0), 3);
    x.undo();
    x.put(0, 2);
    x.days(1);
    // It shows 10 and has 2; the other has 6.
    check.due("2 and 3", x.cart(1, 0, 0), 2);
    check.due("2", x.cart(1, 0, 1), 2);
  }

  private static void years() {
    // By 0 the draws are 1, 41487, 10299, 37479: 1, 7, 9 and 9 pence.
    PennyPlanks x = Check.laid("i2;d1;b0,1,0;g0,1,7,0,0;");
    int[] waited = {1, 2, 2, 2, 2};
    for (int n = 1; n <= 5; n++) check.due("year " + n, x.year(0, n, 0), waited[n - 1]);
    // In boxes 0, 0, 1, 0 of two.
    PennyPlanks two = Check.laid("i3;d1;b0,1,0;b1,2,0;g0,1,7,0,0;");
    int[] waitedAtTwo = {1, 2, 2, 3, 3};
    for (int n = 1; n <= 5; n++) check.due("two " + n, two.year(0, n, 0), waitedAtTwo[n - 1]);
    // In boxes 0, 2592, 643, 2342 modulo 9.
    String row = "i2;d1;b0,1,0;b0,1,0;b0,1,0;b0,1,0;b0,1,0;b0,1,0;b0,1,0;b0,1,0;b0,1,0;";
    PennyPlanks nine = Check.laid(row + "g0,1,9,0,3;");
    check.due("nine 3", nine.year(0, 3, 0), 3);
    check.due("nine 4", nine.year(0, 4, 0), 3);
    // 643 modulo 5 is 3: box 3 has 9 pence on day 2, so that one crosses there on day 3.
    PennyPlanks apart = Check.laid("i3;d1;b0,1,0;b0,1,0;b0,1,0;b0,1,0;b0,2,0;g0,2,9,0,0;");
    check.due("not box 4 of 5", apart.year(0, 4, 0), 4);
    PennyPlanks third = Check.laid("i3;d1;b0,1,0;b0,1,0;b0,1,0;b0,2,0;b0,1,0;g0,2,9,0,0;");
    check.due("box 3 of 5", third.year(0, 4, 0), 3);
    // By 1 the first draw is 22803: 3 pence.
    check.due("by 1", Check.laid("i2;d1;b0,1,0;g0,1,3,0,0;").year(1, 2, 0), 1);
    check.due("by 1, 4", Check.laid("i2;d1;b0,1,0;g0,1,4,0,0;").year(1, 2, 0), 2);
    // What is put ahead of the day can be stolen on it.
    PennyPlanks thief = Check.laid("i2;d1;b0,1,9;g0,1,1,20,3;");
    check.due("fell 1", thief.year(0, 1, 1), 0);
    check.due("fell 2", thief.year(0, 2, 1), 1);
    check.due("waited 2", thief.year(0, 2, 0), 0);
    check.due("nothing changes", x.count(4), 0);
    check.due("box", x.bridge(0, 7), 0);
  }

  private static void yearsBad() {
    PennyPlanks x = new PennyPlanks();
    int[][] bad = {{-1, 1, 0}, {10000, 1, 0}, {0, 0, 0}, {0, 61, 0}, {0, 1, -1}, {0, 1, 2}};
    for (int[] v : bad) check.due("bad", x.year(v[0], v[1], v[2]), BAD);
    check.due("most", x.year(9999, 60, 1), 0);
  }

  private static void keeping() {
    PennyPlanks x = Check.laid(THIEVES);
    check.due("back none", x.back(), NO);
    x.put(0, 4);
    x.guard(0, true);
    check.due("keep", x.keep(), 1);
    check.due("undone stays", x.count(7), 2);
    x.guard(0, false);
    x.days(1);
    check.due("keep more", x.keep(), 2);
    check.due("keep too many", x.keep(), FULL);
    x.days(9);
    x.enter(0, 1, 2, true);
    check.due("back", x.back(), 1);
    check.due("day", x.count(4), 1);
    check.due("planks", x.bridge(0, 5), 5);
    check.due("undo then", x.undo(), NO);
    check.due("ledger stays", x.count(6), 1);
    x.days(1);
    check.due("back to the first", x.back(), 0);
    check.due("day 0", x.count(4), 0);
    check.due("box", x.bridge(0, 7), 4);
    check.due("guarded", x.bridge(0, 4), 1);
    check.due("put counts on", x.put(0, 96), NO);
    check.due("place", x.goer(0, 0), 0);
    check.due("back no more", x.back(), NO);
    check.due("keep again", x.keep(), 1);
    x.put(0, 1);
    check.due("a kept one is not touched", x.back(), 0);
    check.due("box again", x.bridge(0, 7), 4);
  }

  private static void counting() {
    PennyPlanks x = Check.laid("i6;d3;b0,1,5;b4,5,1;g0,1,1,3,0;g0,1,2,2,3;g4,5,9,0,2;");
    x.days(4);
    x.guard(0, true);
    x.keep();
    x.enter(0, 1, 1, true);
    x.enter(0, 1, 1, true);
    int[] due = {6, 2, 3, 3, 4, 1, 2, 2, 1, 53};
    for (int what = 0; what < due.length; what++) {
      check.due("count " + what, x.count(what), due[what]);
    }
    for (int what : new int[] {-1, 10, Integer.MIN_VALUE, Integer.MAX_VALUE}) {
      check.due("count " + what, x.count(what), BAD);
    }
  }
}
