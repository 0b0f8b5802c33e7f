import java.math.BigInteger;

/** Section 4 of the document, promises 20 to 28: sentences with an edge, on both sides of it. */
public final class LedgerEdgeTest {
  private static final Check check = new Check("LedgerEdgeTest");
  private static final int BAD = PennyPlanks.BAD, NO = PennyPlanks.NO;
  private static final int FULL = PennyPlanks.FULL, NONE = PennyPlanks.NONE;

  public static void main(String[] args) {
    heardNow();
    heardAtTheEndOfADay();
    heardOnTwoIslands();
    fallenAreNowhere();
    noWayByThatBridge();
    rumourBehindDays();
    eightRows();
    numbersOfARow();
    noLedger();
    spanOfOneRow();
    spanOfTwoRows();
    spanOfBoth();
    cartsOfAllWeights();
    heaviestCart();
    noCart();
    draws();
    boxesByDraws();
    aheadOfTheDay();
    drawsBesideWhatWasPut();
    fellInAYear();
    twoKept();
    keptButTheLedger();
    nothingUndoneThen();
    counts();
    check.end();
  }

  private static void heardNow() {
    check.sentence("a GOER has heard now that a BRIDGE is weak");
    PennyPlanks x = Check.laid("i2;d9;b0,1,9;" + "g0,1,1,0,0;".repeat(5));
    for (int i = 0; i < 5; i++) check.due("now, " + i, x.rumour(i, 0, 0, 0), 1 << i);
    check.due("nobody is told of", x.rumour(5, 0, 0, 0), BAD);
    check.due("none to hear it", Check.laid("b0,1,9;").rumour(0, 0, 0, 0), BAD);
  }

  private static void heardAtTheEndOfADay() {
    check.sentence("all who are on one ISLAND with one who has heard it hear it");
    // Goer 0 stays, as the bridge is weak for him; 1 goes and comes back; 2 stays elsewhere.
    PennyPlanks x = Check.laid("i3;d9;b0,1,9;g0,1,1,0,0;g0,1,1,0,0;g2,0,1,0,0;");
    heard(x, 0, 0, 1, 1, 3, 3);
    // Together at the beginning of the day alone.
    check.due("apart at its end", x.rumour(1, 0, 1, 0), 2);
    PennyPlanks both = Check.laid("i3;d9;b0,1,0;g0,1,1,0,0;g0,1,1,0,0;");
    heard(both, 0, 0, 1, 3);
  }

  private static void heard(PennyPlanks x, int i, int b, int... due) {
    for (int n = 0; n < due.length; n++) check.due("behind " + n, x.rumour(i, b, n, 0), due[n]);
  }

  private static void heardOnTwoIslands() {
    // 0 and 1 wait at 0, where 2 is at the end of day 0; 3 never meets one of them.
    heard(Check.laid("i4;d9;b0,1,9;b0,2,9;b1,3,9;"
        + "g0,1,9,0,0;g0,3,10,0,0;g2,0,9,0,0;g3,1,9,0,0;"), 0, 0, 1, 7, 7, 7);
    // 3 waits at 0 and 4 at 2; 0 goes from 1 to 3 and back, 1 to 4 and back, 2 as 1 does not.
    heard(Check.laid("i3;d9;b0,1,9;b1,2,9;b0,1,0;"
        + "g1,0,1,0,0;g1,2,1,0,0;g2,1,1,0,0;g0,1,20,0,0;g2,1,20,0,0;"), 0, 2, 1, 9, 11, 27);
  }

  private static void fallenAreNowhere() {
    check.sentence("(who has FALLEN is nowhere)");
    PennyPlanks x = Check.laid("i2;d1;b0,1,9;b0,1,0;g0,1,1,5,0;g0,1,3,3,3;g0,1,9,0,0;");
    x.days(1);
    check.due("all are on 1", x.goer(0, 0) + x.goer(1, 0) + x.goer(2, 0), 3);
    // Today bridge 0 shows 5 and has 2: the thief falls, and the last one waits where he was.
    heard(x, 0, 1, 1, 1);
    heard(x, 1, 1, 2, 2, 2);
    heard(x, 2, 1, 4, 4, 5);
    x.days(1);
    check.due("fallen", x.goer(1, 0), NONE);
    for (int n : new int[] {0, 1, 60}) {
      check.due("he tells nobody", x.rumour(1, 0, n, 0), 2);
      check.due("he does not hear", x.rumour(2, 0, n, 0) & 2, 0);
    }
  }

  private static void noWayByThatBridge() {
    check.sentence("who has heard it takes no way by that BRIDGE");
    PennyPlanks x = Check.laid("i3;d1;b0,1,9;b0,2,9;b2,1,9;g0,1,1,7,0;");
    check.due("planks of the weak one", x.rumour(0, 0, 1, 1), 0);
    check.due("planks of it without", x.planks(1, 0), 7);
    check.due("by another weak one", x.rumour(0, 1, 1, 1), 0);
    // Who has not heard it yet puts his pence there still.
    PennyPlanks two = Check.laid("i2;d1;b0,1,9;g0,1,1,7,0;g1,0,1,6,0;");
    check.due("of one who has not heard", two.rumour(0, 0, 1, 1), 6);
    check.due("of the other one", two.rumour(1, 0, 1, 1), 7);
    check.due("both have heard", two.rumour(0, 0, 2, 1), 0);
    check.due("nothing changes", two.planks(1, 0), 13);
  }

  private static void rumourBehindDays() {
    check.sentence("BEHIND n days (0 to 60): who has heard it (bits); PLANKS of that BRIDGE");
    PennyPlanks x = Check.laid("i2;d2;b0,1,9;g0,1,1,7,0;");
    int[] planks = {9, 9, 0};
    for (int n = 0; n < 3; n++) check.due("planks " + n, x.rumour(0, 0, n, 1), planks[n]);
    check.due("behind 60", x.rumour(0, 0, 60, 0), 1);
    check.due("planks behind 60", x.rumour(0, 0, 60, 1), 0);
    check.due("behind 61", x.rumour(0, 0, 61, 0), BAD);
    check.due("behind -1", x.rumour(0, 0, -1, 1), BAD);
  }

  private static void eightRows() {
    check.sentence("THE LEDGER is of rows (8 at most)");
    PennyPlanks x = new PennyPlanks();
    for (int k = 1; k <= 8; k++) check.due("row " + k, x.enter(0, 5, 10 * k, true), k);
    check.due("row 9", x.enter(1, 5, 3, true), FULL);
    check.due("row 9 of the same", x.enter(0, 5, 10, true), FULL);
    check.due("row 9, bad", x.enter(3, 5, 10, true), BAD);
    check.due("rows", x.count(6), 8);
    check.due("all of them count", x.span(0, 5, 0), 80);
    check.due("the ninth does not", x.span(1, 5, 0), 0);
    check.due("close", x.close(), 8);
    check.due("row 1 again", x.enter(0, 5, 10, true), 1);
    check.due("it alone counts", x.span(0, 5, 0), 10);
  }

  private static void numbersOfARow() {
    check.sentence("on day t (0 to 99) a BRIDGE bore one who NEEDS w (1 to 80), or did not");
    int[][] ends = {{0, 2}, {0, 99}, {1, 80}};
    for (int k = 0; k < 3; k++) {
      for (int side = 0; side < 2; side++) {
        for (boolean bore : new boolean[] {true, false}) {
          int[] v = {1, 50, 40};
          v[k] = ends[k][side];
          PennyPlanks x = new PennyPlanks();
          check.due("number " + k + " at its edge", x.enter(v[0], v[1], v[2], bore), 1);
          check.due("its span", x.span(v[0], v[1], bore ? 0 : 1), bore ? v[2] : v[2] - 1);
          v[k] += side == 0 ? -1 : 1;
          check.due("number " + k + " behind it", x.enter(v[0], v[1], v[2], bore), BAD);
          check.due("rows", x.count(6), 1);
        }
      }
    }
  }

  private static void noLedger() {
    check.sentence("No LEDGER: how many rows it had");
    for (int rows = 0; rows <= 8; rows++) {
      PennyPlanks x = new PennyPlanks();
      for (int k = 0; k < rows; k++) x.enter(0, 0, 5, true);
      check.due("close of " + rows, x.close(), rows);
      check.due("close again", x.close(), 0);
      check.due("rows", x.count(6), 0);
      check.due("span", x.span(0, 0, 0), 0);
    }
  }

  private static void span(PennyPlanks x, int b, int t, int least, int most) {
    check.due("least of " + b + " " + t, x.span(b, t, 0), least);
    check.due("most of " + b + " " + t, x.span(b, t, 1), most);
  }

  private static void spanOfOneRow() {
    check.sentence("the least PLANKS (0 to 99) that it can have had; the most");
    for (int w = 1; w <= 80; w++) {
      PennyPlanks x = new PennyPlanks();
      span(x, 0, 0, 0, 99);
      x.enter(0, 0, w, true);
      span(x, 0, 0, w, 99);
      x.close();
      x.enter(0, 0, w, false);
      span(x, 0, 0, 0, w - 1);
    }
  }

  private static void spanOfTwoRows() {
    check.sentence("none (it can have had none of these)");
    for (int w = 1; w <= 80; w += 13) {
      for (int u = 1; u <= 80; u++) {
        PennyPlanks x = new PennyPlanks();
        x.enter(2, 99, w, true);
        x.enter(2, 99, u, false);
        span(x, 2, 99, w < u ? w : NONE, w < u ? u - 1 : NONE);
        check.due("none, but bad", x.span(2, 99, 2), BAD);
      }
    }
  }

  private static void spanOfBoth() {
    check.sentence("SPAN of a BRIDGE and a day: by all rows of both");
    PennyPlanks x = new PennyPlanks();
    x.enter(0, 0, 5, true);
    x.enter(0, 1, 9, false);
    x.enter(1, 0, 7, false);
    x.enter(1, 1, 7, true);
    x.enter(0, 0, 30, false);
    x.enter(0, 0, 4, true);
    x.enter(0, 0, 40, false);
    span(x, 0, 0, 5, 29);
    span(x, 0, 1, 0, 8);
    span(x, 1, 0, 0, 6);
    span(x, 1, 1, 7, 99);
    span(x, 2, 0, 0, 99);
    span(x, 0, 99, 0, 99);
    span(x, 0, 100, BAD, BAD);
    span(x, 0, -1, BAD, BAD);
    // What the bridges really have does not count.
    x.days(1);
    span(x, 0, 0, 5, 29);
  }

  /** Bridge 0 shows so many, of which 20 at most are stolen; bridge 1 has so many. */
  private static PennyPlanks robbed(int shows, int others) {
    PennyPlanks x = Check.laid("i2;d1;b0,1,9;b0,1,9;g0,1,1,20,3;");
    x.put(0, shows);
    x.put(1, others);
    x.days(1);
    return x;
  }

  private static void cartsOfAllWeights() {
    check.sentence("for how many WEIGHTS (1 to 40) a CART could CROSS BRIDGE b today");
    for (int shows = 1; shows <= 99; shows += 7) {
      for (int others = 1; others <= 99; others++) {
        int has = shows < 20 ? 0 : shows - 20;
        int many = 0;
        int least = NONE;
        for (int w = 40; w >= 1; w--) {
          if (2 * w > others || 2 * w <= has || 2 * w > shows) continue;
          many++;
          least = w;
        }
        PennyPlanks x = robbed(shows, others);
        check.due("many of " + shows + " " + others, x.cart(1, 0, 0), many);
        check.due("least of " + shows + " " + others, x.cart(1, 0, 1), least);
        check.due("the other way", x.cart(0, 1, 0), 0);
      }
    }
  }

  private static void heaviestCart() {
    PennyPlanks x = robbed(99, 99);
    check.due("planks", x.bridge(0, 5), 79);
    check.due("of 40 alone", x.cart(1, 0, 0), 1);
    check.due("40", x.cart(1, 0, 1), 40);
    PennyPlanks less = robbed(99, 79);
    check.due("of none", less.cart(1, 0, 0), 0);
    PennyPlanks oak = Check.laid("i2;d1;b0,1,9;b0,1,9;o0;g0,1,1,20,3;");
    oak.put(0, 99);
    oak.put(1, 99);
    oak.days(1);
    check.due("planks with oak", oak.bridge(0, 5), 84);
    check.due("of none that is so heavy", oak.cart(1, 0, 0), 0);
    check.due("none", oak.cart(1, 0, 1), NONE);
    PennyPlanks light = robbed(2, 2);
    check.due("of 1 alone", light.cart(1, 0, 0), 1);
    check.due("1", light.cart(1, 0, 1), 1);
    check.due("of none so light", robbed(1, 2).cart(1, 0, 0), 0);
    check.due("of none that it bears", robbed(2, 1).cart(1, 0, 0), 0);
  }

  private static void noCart() {
    check.sentence("how many (what = 0), the least (1; NONE). BAD (b and g alike, too)");
    PennyPlanks x = new PennyPlanks();
    for (int b = -1; b <= 3; b++) {
      for (int g = -1; g <= 3; g++) {
        boolean bad = b < 0 || b > 2 || g < 0 || g > 2 || b == g;
        check.due("many " + b + " " + g, x.cart(b, g, 0), bad ? BAD : 0);
        check.due("least " + b + " " + g, x.cart(b, g, 1), bad ? BAD : NONE);
        check.due("what 2", x.cart(b, g, 2), BAD);
        check.due("what -1", x.cart(b, g, -1), BAD);
      }
    }
  }

  private static int draw(int z, int k) {
    BigInteger x = BigInteger.valueOf(7919L * z + 6151L * k + 1);
    return x.multiply(x).mod(BigInteger.valueOf(65521)).intValue();
  }

  private static final int[] YEARS = {0, 1, 2, 7, 100, 2712, 5000, 9998, 9999};

  private static void draws() {
    check.sentence("A YEAR by z (0 to 9999) of n (1 to 60) days: DRAW modulo 10 pence");
    for (int z : YEARS) {
      for (int w = 1; w <= 10; w++) {
        PennyPlanks x = Check.laid("i2;d1;b0,1,0;g0,1," + w + ",0,0;");
        int waited = 1;
        for (int n = 1; n <= 60; n++) {
          check.due("waited in " + n + " by " + z, x.year(z, n, 0), waited);
          if (draw(z, n - 1) % 10 < w) waited++;
        }
      }
    }
    PennyPlanks x = new PennyPlanks();
    check.due("by -1", x.year(-1, 1, 0), BAD);
    check.due("by 10000", x.year(10000, 1, 0), BAD);
    check.due("of 0 days", x.year(0, 0, 0), BAD);
    check.due("of 61 days", x.year(0, 61, 0), BAD);
  }

  private static void boxesByDraws() {
    check.sentence("(DRAW by 16, cut) modulo how many there are");
    for (int many = 1; many <= 9; many++) {
      for (int box = 0; box < many; box++) {
        String text = "i3;d1;" + "b1,2,0;".repeat(box) + "b0,1,0;";
        text += "b1,2,0;".repeat(many - 1 - box);
        PennyPlanks x = Check.laid(text + "g0,1,1,0,0;");
        for (int z : YEARS) {
          int waited = 1;
          for (int k = 0; k < 59; k++) {
            if (draw(z, k) / 16 % many != box || draw(z, k) % 10 == 0) waited++;
          }
          check.due("box " + box + " of " + many + " by " + z, x.year(z, 60, 0), waited);
        }
      }
    }
  }

  private static void aheadOfTheDay() {
    check.sentence("ahead of day k of these (0 first)");
    // The first draw by 0 is 1: a penny that a thief finds on that very day.
    PennyPlanks x = Check.laid("i2;d1;b0,1,9;g0,1,1,20,3;");
    check.due("fell on day 0", x.year(0, 1, 1), 0);
    check.due("fell on day 1", x.year(0, 2, 1), 1);
    // Day 0 of these is today, whichever day it is.
    x.guard(0, true);
    x.days(60);
    x.days(39);
    check.due("on day 99", x.year(0, 1, 0), 1);
    check.due("on day 100", x.year(0, 2, 0), 1);
  }

  private static void drawsBesideWhatWasPut() {
    check.sentence("DRAW modulo 10 pence are put in BOX");
    for (int z : YEARS) {
      int both = 20 + draw(z, 0) % 10;
      for (int w = both - 1; w <= both + 1; w++) {
        PennyPlanks x = Check.laid("i2;d1;b0,1,0;g0,1," + w + ",0,0;");
        x.put(0, 20);
        check.due(w + " on 20 and a draw by " + z, x.year(z, 2, 0), w <= both ? 1 : 2);
      }
    }
  }

  private static void fellInAYear() {
    check.sentence("how often GOERS WAITED; how many FELL");
    PennyPlanks x = Check.laid("i2;d1;b0,1,9;g0,1,2,5,0;g0,1,3,3,3;");
    check.due("fell", x.year(9999, 60, 1), 1);
    check.due("what 2", x.year(9999, 60, 2), BAD);
    check.due("what -1", x.year(9999, 60, -1), BAD);
    check.due("for nobody", Check.laid("b0,1,0;").year(5, 60, 0), 0);
    check.due("nothing changes", x.count(5), 0);
    check.due("nor a box", x.bridge(0, 7), 0);
  }

  private static void twoKept() {
    check.sentence("KEPT is the delta as it is: 2 at most");
    PennyPlanks x = new PennyPlanks();
    check.due("back of none", x.back(), NO);
    x.days(1);
    check.due("keep", x.keep(), 1);
    x.days(1);
    check.due("keep", x.keep(), 2);
    x.days(1);
    check.due("keep a third", x.keep(), FULL);
    check.due("kept", x.count(8), 2);
    check.due("back", x.back(), 1);
    check.due("the last one kept", x.count(4), 2);
    x.days(5);
    check.due("keep again", x.keep(), 2);
    check.due("keep a third again", x.keep(), FULL);
    check.due("back to it", x.back(), 1);
    check.due("its day", x.count(4), 7);
    check.due("back to the first", x.back(), 0);
    check.due("the first day", x.count(4), 1);
    check.due("back no more", x.back(), NO);
    check.due("the day then", x.count(4), 1);
  }

  private static void keptButTheLedger() {
    check.sentence("the delta as it is, but THE LEDGER");
    PennyPlanks x = new PennyPlanks();
    x.enter(0, 0, 5, true);
    x.write('d');
    x.put(1, 7);
    x.guard(2, true);
    x.keep();
    x.close();
    x.enter(0, 0, 6, true);
    x.enter(0, 0, 7, true);
    x.write('1');
    x.put(1, 8);
    x.guard(2, false);
    x.days(8);
    check.due("back", x.back(), 0);
    check.due("rows", x.count(6), 2);
    check.due("span", x.span(0, 0, 0), 7);
    check.due("letters", x.count(9), 2);
    check.due("box", x.bridge(1, 7), 7);
    check.due("guarded", x.bridge(2, 4), 1);
    check.due("day", x.count(4), 0);
    check.due("planks", x.planks(7, 1), 7);
  }

  private static void nothingUndoneThen() {
    check.sentence("nothing is UNDONE then");
    PennyPlanks x = new PennyPlanks();
    x.put(0, 1);
    x.keep();
    check.due("can be, kept", x.count(7), 1);
    x.put(0, 1);
    check.due("can be, put", x.count(7), 2);
    x.undo();
    x.undo();
    check.due("back", x.back(), 0);
    check.due("box", x.bridge(0, 7), 1);
    check.due("none can be", x.count(7), 0);
    check.due("undo", x.undo(), NO);
    x.put(0, 1);
    check.due("back of none", x.back(), NO);
    check.due("can be still", x.count(7), 1);
    check.due("undo then", x.undo(), 0);
  }

  private static void counts() {
    check.sentence("How many: 0 ISLANDS .. 9 letters of THE TEXT. BAD");
    PennyPlanks x = new PennyPlanks();
    int[] due = {3, 3, 2, 7, 0, 0, 0, 0, 0, 0};
    for (int what = 0; what <= 9; what++) check.due("count " + what, x.count(what), due[what]);
    check.due("count -1", x.count(-1), BAD);
    check.due("count 10", x.count(10), BAD);
  }
}
