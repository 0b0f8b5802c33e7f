/** Section 2 of the document, promises 6 to 14: sentences with an edge, on both sides of it. */
public final class DayEdgeTest {
  private static final Check check = new Check("DayEdgeTest");
  private static final int BAD = PennyPlanks.BAD, NO = PennyPlanks.NO, NONE = PennyPlanks.NONE;
  private static final int WAITED = 0, FELL = 1, GIVEN = 2, STOLEN = 3;

  public static void main(String[] args) {
    firstDay();
    delayDaysAhead();
    eachDayAhead();
    oakPlanks();
    showsStolenOnes();
    needs();
    showsWhatHeNeeds();
    fewestThenLowest();
    oneBridgeADay();
    waitsWithoutAWay();
    faithfulBeside();
    fallsWithFewer();
    goesNoMore();
    childOnEvenDays();
    thiefTakesWhatThereIs();
    thiefComesByTurn();
    thievesTogether();
    boundForTheOther();
    putAtMost();
    putBesideGifts();
    guardedFromTodayOn();
    lastEightUndone();
    whatIsNotUndone();
    upToSixtyDays();
    upToDayNinetyNine();
    behindDays();
    check.end();
  }

  private static void all(PennyPlanks x, int n, int waited, int fell, int given, int stolen) {
    check.due("waited in " + n, x.all(n, WAITED), waited);
    check.due("fell in " + n, x.all(n, FELL), fell);
    check.due("given in " + n, x.all(n, GIVEN), given);
    check.due("stolen in " + n, x.all(n, STOLEN), stolen);
  }

  private static void firstDay() {
    check.sentence("Day 0 is the first one");
    PennyPlanks x = new PennyPlanks();
    check.due("day", x.count(4), 0);
    check.due("days 1", x.days(1), 1);
    check.due("day then", x.count(4), 1);
  }

  private static void delayDaysAhead() {
    check.sentence("the pence that were put into its BOX on the day DELAY days ahead of it");
    for (int d = 1; d <= 9; d++) {
      PennyPlanks x = Check.laid("i2;d" + d + ";b0,1,7;");
      x.put(0, 3);
      int[] due = {7, 3, 0};
      for (int k = 0; k < 3; k++) {
        check.due("delay " + d + " planks " + k, x.planks(d - 1 + k, 0), due[k]);
      }
      for (int k = 0; k < 3; k++) {
        if (d - 1 + k > x.count(4)) x.days(d - 1 + k - x.count(4));
        check.due("delay " + d + " planks today " + k, x.bridge(0, 5), due[k]);
        check.due("delay " + d + " shows today " + k, x.bridge(0, 6), due[k]);
      }
    }
  }

  /** Other pence on each day, so that no day is taken for one that is some days away. */
  private static void eachDayAhead() {
    for (int d = 1; d <= 9; d++) {
      PennyPlanks x = Check.laid("i2;d" + d + ";b0,1,77;b0,1,88;");
      for (int t = 0; t <= 40; t++) {
        check.due("delay " + d + " day " + t, x.bridge(0, 5), t < d ? 77 : 1 + t - d);
        check.due("other, delay " + d + " day " + t, x.bridge(1, 5), t < d ? 88 : 51 + t - d);
        x.put(0, 1 + t);
        x.put(1, 51 + t);
        check.due("put behind, day " + t, x.planks(d, 1), 51 + t);
        x.days(1);
      }
      // The last eight are the ends of days 40, 39 and 38, and five puts on these days.
      for (int k = 0; k < 8; k++) x.undo();
      check.due("delay " + d + " undone", x.count(4), 38);
      check.due("planks undone", x.bridge(0, 5), 39 - d);
      check.due("box undone", x.bridge(0, 7), 39);
      check.due("other box undone", x.bridge(1, 7), 0);
    }
  }

  private static void oakPlanks() {
    check.sentence("and 5 with OAK");
    PennyPlanks x = Check.laid("i2;d1;b0,1,0;b0,1,0;o1;b0,1,99;o2;");
    int[] due = {0, 5, 104};
    for (int b = 0; b < 3; b++) {
      check.due("planks " + b, x.bridge(b, 5), due[b]);
      check.due("shows " + b, x.bridge(b, 6), due[b]);
    }
    check.due("planks then", x.planks(1, 2), 5);
    check.due("planks then without", x.planks(1, 0), 0);
    // Oak is not in the box: it can not be stolen.
    PennyPlanks thief = Check.laid("i2;d1;b0,1,0;o0;g0,1,5,20,3;");
    all(thief, 9, 0, 0, 0, 0);
  }

  private static void showsStolenOnes() {
    check.sentence("It SHOWS as many and the stolen ones");
    PennyPlanks x = Check.laid("i2;d2;b0,1,9;o0;g0,1,1,4,3;");
    x.put(0, 6);
    x.days(1);
    check.due("planks of ahead", x.bridge(0, 5), 14);
    check.due("shows of ahead", x.bridge(0, 6), 14);
    x.days(1);
    check.due("planks", x.bridge(0, 5), 7);
    check.due("shows", x.bridge(0, 6), 11);
    x.days(1);
    check.due("planks of nothing", x.bridge(0, 5), 5);
    check.due("shows of nothing", x.bridge(0, 6), 5);
  }

  private static void needs() {
    check.sentence("A GOER NEEDS his WEIGHT, a CART 2 times that");
    for (int kind = 0; kind <= 4; kind++) {
      int times = kind == 1 ? 2 : 1;
      for (int w : new int[] {1, 40}) {
        PennyPlanks x = Check.laid("b0,1,1;g0,1," + w + ",0," + kind + ";");
        check.due("kind " + kind + " of " + w, x.goer(0, 5), times * w);
      }
    }
  }

  private static void showsWhatHeNeeds() {
    check.sentence("by BRIDGES that SHOW today what he NEEDS");
    for (int kind = 0; kind <= 4; kind++) {
      for (int w : new int[] {1, 7, 40}) {
        int need = kind == 1 ? 2 * w : w;
        String goer = "g0,1," + w + ",0," + kind + ";";
        PennyPlanks enough = Check.laid("i2;b0,1," + need + ";" + goer);
        check.due("enough", enough.goer(0, 6), 0);
        check.due("crosses", enough.where(1, 0), 1);
        PennyPlanks less = Check.laid("i2;b0,1," + (need - 1) + ";" + goer);
        check.due("less", less.goer(0, 6), NONE);
        check.due("stays", less.where(1, 0), 0);
        check.due("waits", less.all(1, WAITED), 1);
      }
    }
  }

  private static void fewestThenLowest() {
    check.sentence("he takes that of fewest, of several the one whose first BRIDGE is the lowest");
    String goer = "g0,3,5,0,0;";
    check.due("fewest, though higher", Check.laid("b0,1,5;b1,3,5;b0,3,5;" + goer).goer(0, 6), 2);
    check.due("it shows less", Check.laid("b0,1,5;b1,3,5;b0,3,4;" + goer).goer(0, 6), 0);
    check.due("the first one is lower",
        Check.laid("b2,3,5;b0,1,5;b0,2,5;b1,3,5;" + goer).goer(0, 6), 1);
    check.due("the other way shows less",
        Check.laid("b2,3,5;b0,1,5;b0,2,5;b1,3,4;" + goer).goer(0, 6), 2);
    check.due("side by side", Check.laid("b3,0,4;b3,0,5;b0,3,9;" + goer).goer(0, 6), 1);
    String ring = "i8;b7,0,5;b0,1,5;b1,2,5;b2,3,5;b3,4,5;b4,5,5;b5,6,5;b6,7,5;";
    check.due("half round", Check.laid(ring + "g0,4,5,0,0;").goer(0, 6), 0);
    check.due("less than half", Check.laid(ring + "g0,3,5,0,0;").goer(0, 6), 1);
    check.due("more than half", Check.laid(ring + "g0,5,5,0,0;").goer(0, 6), 0);
  }

  private static void oneBridgeADay() {
    check.sentence("he CROSSES that one alone");
    PennyPlanks x = Check.laid("i8;d9;b0,1,5;b1,2,5;b2,3,5;b3,4,5;b4,5,5;b5,6,5;b6,7,5;"
        + "g0,7,5,0,0;");
    for (int n = 0; n <= 7; n++) check.due("where behind " + n, x.where(n, 0), n);
    check.due("on his way back", x.where(8, 0), 6);
    check.due("bridge 0 is paid by nobody", x.all(9, GIVEN), 0);
  }

  private static void waitsWithoutAWay() {
    check.sentence("If there is no way, he WAITS");
    PennyPlanks x = Check.laid("i4;d9;b0,1,9;b2,3,9;g0,2,1,5,0;g0,1,1,5,0;");
    check.due("would take", x.goer(0, 6), NONE);
    all(x, 1, 1, 0, 5, 0);
    all(x, 5, 5, 0, 25, 0);
    check.due("where", x.where(5, 0), 0);
    all(Check.laid("b0,1,9;"), 60, 0, 0, 0, 0);
  }

  private static void faithfulBeside() {
    check.sentence("into the BOX of the lowest BRIDGE beside him all the same (if there is one)");
    PennyPlanks x = Check.laid("i4;d2;b2,3,9;b3,1,0;b1,0,0;g1,2,9,20,4;");
    check.due("not beside", x.planks(2, 0), 0);
    check.due("lowest beside", x.planks(2, 1), 20);
    check.due("higher beside", x.planks(2, 2), 0);
    all(x, 1, 1, 0, 20, 0);
    PennyPlanks none = Check.laid("i4;d2;b2,3,9;g1,2,9,20,4;");
    all(none, 5, 5, 0, 0, 0);
    check.due("put nowhere", none.planks(2, 0), 0);
    // A bridge beside him that bears him, but leads nowhere, is one as well.
    PennyPlanks end = Check.laid("i3;d2;b1,0,9;g1,2,9,7,4;");
    check.due("put there", end.planks(2, 0), 7);
    all(end, 3, 3, 0, 21, 0);
    all(Check.laid("i4;d2;b1,3,9;g1,2,9,0,4;"), 5, 5, 0, 0, 0);
  }

  private static void fallsWithFewer() {
    check.sentence("If it has fewer PLANKS than he NEEDS, he FALLS");
    // On day 1 the bridge shows 10 and has 10 less what the thief took.
    for (int need = 5; need <= 9; need++) {
      PennyPlanks x = Check.laid("i2;d1;b0,1,40;g0,1,1,3,3;g0,1," + need + ",0,0;");
      x.put(0, 10);
      x.days(1);
      check.due("planks", x.bridge(0, 5), 7);
      check.due("shows", x.bridge(0, 6), 10);
      check.due("would take it", x.goer(1, 6), 0);
      check.due("need " + need, x.where(1, 1), need > 7 ? NONE : 0);
      check.due("fell, need " + need, x.all(1, FELL), need > 7 ? 1 : 0);
      check.due("waited, need " + need, x.all(1, WAITED), 0);
    }
  }

  private static void goesNoMore() {
    check.sentence("he FALLS, and goes no more");
    PennyPlanks x = Check.laid("i2;d1;b0,1,40;g0,1,9,5,4;g0,1,6,20,3;");
    x.put(0, 20);
    x.days(2);
    check.due("both fell", x.count(5), 2);
    for (int i = 0; i < 2; i++) {
      check.due("nowhere", x.goer(i, 0), NONE);
      check.due("takes none", x.goer(i, 6), NONE);
      check.due("nowhere behind days", x.where(9, i), NONE);
    }
    x.put(0, 99);
    all(x, 60, 0, 0, 0, 0);
    x.days(60);
    check.due("both still", x.count(5), 2);
  }

  private static void childOnEvenDays() {
    check.sentence("a CHILD just on even days");
    PennyPlanks x = Check.laid("i2;d9;b0,1,0;o0;g0,1,1,6,2;");
    check.due("day 0", x.all(1, GIVEN), 6);
    check.due("days 0 and 1", x.all(2, GIVEN), 6);
    check.due("days 0 to 2", x.all(3, GIVEN), 12);
    x.days(1);
    check.due("day 1", x.all(1, GIVEN), 0);
    x.days(60);
    x.days(37);
    check.due("day 98", x.all(1, GIVEN), 6);
    x.days(1);
    check.due("day 99", x.all(1, GIVEN), 0);
    check.due("days 99 and 100", x.all(2, GIVEN), 6);
  }

  private static void thiefTakesWhatThereIs() {
    check.sentence("a THIEF steals G from it instead, or what there is of today, if it is less");
    for (int put = 1; put <= 9; put++) {
      PennyPlanks x = Check.laid("i2;d1;b0,1,40;g0,1,1,5,3;");
      check.due("of nothing", x.all(1, STOLEN), 0);
      x.put(0, put);
      check.due("of " + put, x.all(1, STOLEN), put < 5 ? put : 5);
      check.due("left of " + put, x.planks(1, 0), put < 5 ? 0 : put - 5);
      check.due("given", x.all(1, GIVEN), 0);
    }
    // What was put on other days is not there today.
    PennyPlanks later = Check.laid("i2;d9;b0,1,40;g0,1,1,5,3;");
    later.put(0, 50);
    check.due("in all days", later.all(9, STOLEN), 5);
    PennyPlanks nothing = Check.laid("i2;d9;b0,1,40;g0,1,1,0,3;");
    nothing.put(0, 50);
    check.due("of one who steals 0", nothing.all(9, STOLEN), 0);
  }

  private static void thiefComesByTurn() {
    check.sentence("On each day GOERS, 0 first");
    String giver = "g0,1,1,4,0;";
    String thief = "g0,1,1,3,3;";
    all(Check.laid("i2;d9;b0,1,40;" + giver + thief), 1, 0, 0, 4, 3);
    all(Check.laid("i2;d9;b0,1,40;" + thief + giver), 1, 0, 0, 4, 0);
    all(Check.laid("i2;d9;b0,1,40;" + thief + giver + thief), 1, 0, 0, 4, 3);
    all(Check.laid("i2;d9;b0,1,40;" + giver + thief + thief), 1, 0, 0, 4, 4);
    all(Check.laid("i2;d9;b0,1,40;" + giver + thief + giver + thief), 1, 0, 0, 8, 6);
  }

  private static void thievesTogether() {
    check.sentence("less those stolen from it on that day");
    String delta = "i2;d1;b0,1,9;g0,1,1,10,0;";
    String[] thieves = {"g0,1,1,3,3;", "g0,1,1,4,3;", "g0,1,1,20,3;"};
    int[] left = {10, 7, 3, 0};
    for (int many = 0; many <= thieves.length; many++) {
      PennyPlanks x = Check.laid(delta);
      check.due("stolen by " + many, x.all(1, STOLEN), 10 - left[many]);
      x.days(1);
      check.due("planks behind " + many, x.bridge(0, 5), left[many]);
      check.due("shown behind " + many, x.bridge(0, 6), 10);
      if (many < thieves.length) delta += thieves[many];
    }
  }

  private static void boundForTheOther() {
    check.sentence("is bound for the other one of A and B from then on");
    PennyPlanks x = Check.laid("i4;d9;b1,2,9;b2,3,9;g1,3,1,0,0;");
    int[] places = {1, 2, 3, 2, 1, 2};
    int[] bounds = {3, 3, 1, 1, 3, 3};
    for (int t = 0; t < places.length; t++) {
      check.due("place on day " + t, x.goer(0, 0), places[t]);
      check.due("bound on day " + t, x.goer(0, 1), bounds[t]);
      x.days(1);
    }
  }

  private static void putAtMost() {
    check.sentence("(99 a day at most by this)");
    PennyPlanks x = Check.laid("i2;d1;b0,1,0;b0,1,0;");
    check.due("put 1", x.put(0, 1), 1);
    check.due("put 99 more", x.put(0, 99), NO);
    check.due("put 97 more", x.put(0, 97), 98);
    check.due("put 2 more", x.put(0, 2), NO);
    check.due("put 1 more", x.put(0, 1), 99);
    check.due("put another", x.put(0, 1), NO);
    check.due("put at once", x.put(1, 99), 99);
    check.due("put 100", x.put(1, 100), BAD);
    check.due("box", x.bridge(0, 7), 99);
    check.due("undone can be", x.count(7), 4);
    x.days(1);
    check.due("box of the next day", x.bridge(0, 7), 0);
    check.due("put on the next day", x.put(0, 99), 99);
    x.undo();
    check.due("put again, undone", x.put(0, 98), 98);
  }

  private static void putBesideGifts() {
    PennyPlanks x = Check.laid("i2;d1;b0,1,99;o0;g0,1,1,20,0;g0,1,1,20,4;");
    check.due("put 99", x.put(0, 99), 99);
    check.due("planks above 99", x.planks(1, 0), 144);
    check.due("given", x.all(1, GIVEN), 40);
    x.days(1);
    check.due("gifts of yesterday do not count", x.put(0, 99), 99);
  }

  private static void guardedFromTodayOn() {
    check.sentence("a BOX be GUARDED from today on, or no more: nothing is stolen from it");
    PennyPlanks x = Check.laid("i2;d2;b0,1,40;g0,1,1,9,0;g0,1,1,4,3;");
    x.days(1);
    check.due("guard", x.guard(0, true), 1);
    x.days(1);
    check.due("stolen ahead of it stays stolen", x.bridge(0, 5), 5);
    x.days(1);
    check.due("nothing stolen", x.bridge(0, 5), 9);
    check.due("guarded still", x.bridge(0, 4), 1);
    check.due("no more", x.guard(0, false), 0);
    check.due("stolen again", x.all(1, STOLEN), 4);
    PennyPlanks nine = Check.laid("b0,1,1;".repeat(9));
    for (int b = 8; b >= 0; b--) check.due("guard " + b, nine.guard(b, true), 9 - b);
    for (int b = 0; b <= 8; b++) check.due("no more " + b, nine.guard(b, false), 8 - b);
  }

  private static void lastEightUndone() {
    check.sentence("UNDONE is the latest days(), put(), guard() (the last 8 can be)");
    for (int done = 0; done <= 12; done++) {
      PennyPlanks x = Check.laid("i2;d1;b0,1,1;b0,1,1;");
      for (int k = 0; k < done; k++) {
        if (k % 3 == 0) x.days(1);
        if (k % 3 == 1) x.put(1, 7);
        if (k % 3 == 2) x.guard(1, k % 2 == 0);
      }
      int can = done < 8 ? done : 8;
      check.due("can be, of " + done, x.count(7), can);
      for (int k = can - 1; k >= 0; k--) check.due("undo, of " + done, x.undo(), k);
      check.due("undo no more, of " + done, x.undo(), NO);
      check.due("none can be, of " + done, x.count(7), 0);
      int left = done - can;
      check.due("days left, of " + done, x.count(4), (left + 2) / 3);
      check.due("pence left, of " + done, x.bridge(1, 7), left % 3 == 1 || left == 0 ? 0 : 7);
      check.due("guards left, of " + done, x.bridge(1, 4), left >= 3 ? 1 : 0);
    }
  }

  private static void whatIsNotUndone() {
    PennyPlanks x = new PennyPlanks();
    x.put(0, 5);
    Check.write(x, "d1;");
    x.wipe();
    x.enter(0, 0, 5, true);
    x.close();
    x.enter(0, 0, 6, true);
    x.keep();
    x.write('d');
    check.due("can be", x.count(7), 1);
    check.due("undo", x.undo(), 0);
    check.due("box", x.bridge(0, 7), 0);
    check.due("ledger", x.count(6), 1);
    check.due("kept", x.count(8), 1);
    check.due("letters", x.count(9), 1);
    check.due("undo no more", x.undo(), NO);
    // What is undone is not done again.
    x.put(0, 5);
    x.undo();
    check.due("undo of undo", x.undo(), NO);
  }

  private static void upToSixtyDays() {
    check.sentence("n days (1 to 60) go by: which day it is");
    check.due("days 0", new PennyPlanks().days(0), BAD);
    check.due("days 1", new PennyPlanks().days(1), 1);
    check.due("days 60", new PennyPlanks().days(60), 60);
    check.due("days 61", new PennyPlanks().days(61), BAD);
  }

  private static void upToDayNinetyNine() {
    check.sentence("NO: above 99");
    PennyPlanks x = new PennyPlanks();
    x.days(39);
    check.due("day 99 at once", x.days(60), 99);
    check.due("day 100", x.days(1), NO);
    check.due("day 159", x.days(60), NO);
    x.undo();
    check.due("day 40", x.days(1), 40);
    check.due("day 100 from 40", x.days(60), NO);
    check.due("day 99 from 40", x.days(59), 99);
    check.due("it is day 99", x.count(4), 99);
  }

  private static void behindDays() {
    check.sentence("BEHIND n days (0 to 60)");
    PennyPlanks x = Check.laid("i2;d3;b0,1,40;g0,1,1,9,0;g0,1,1,4,3;g0,1,6,0,0;");
    for (int day : new int[] {0, 39, 99}) {
      if (day > 0) x.days(day == 39 ? 39 : 60);
      check.due("day", x.count(4), day);
      check.due("where now", x.where(0, 0), x.goer(0, 0));
      check.due("planks now", x.planks(0, 0), x.bridge(0, 5));
      all(x, 0, 0, 0, 0, 0);
      check.due("where behind 60", x.where(60, 0), x.goer(0, 0));
      check.due("where behind 59", x.where(59, 0), 1 - x.goer(0, 0));
      check.due("planks behind 60", x.planks(60, 0), 5);
      check.due("given in 60", x.all(60, GIVEN), 9 * 60);
      check.due("fell in 60", x.all(60, FELL), day == 0 ? 1 : 0);
      check.due("stolen in 60", x.all(60, STOLEN), 4 * 60);
    }
  }
}
