/** Section 3 of the document, promises 15 to 19: sentences with an edge, on both sides of it. */
public final class ShouldEdgeTest {
  private static final Check check = new Check("ShouldEdgeTest");
  private static final int BAD = PennyPlanks.BAD, NONE = PennyPlanks.NONE;

  public static void main(String[] args) {
    oneToSixtyDays();
    abbotGivesUpToTwenty();
    abbotLetsDelayBe();
    abbotGivesAsWell();
    abbotGivesAheadOfGoers();
    fallenDoNotWait();
    oakOfOneWithout();
    oakOfSeveralTheLowest();
    oaksOfOthersStay();
    delayOneToNine();
    delayOfSeveralTheLowest();
    watchOfSeveralTheLowest();
    watchBesideGuards();
    watchThoughGuardsDoHarm();
    sentWhatItLacks();
    sentFirstInDelayDays();
    sentOneADay();
    sentFewestBridges();
    sentByEight();
    sentNoneAndAlike();
    check.end();
  }

  private static void oneToSixtyDays() {
    check.sentence("in n days (1 to 60)");
    for (int n = -1; n <= 62; n++) {
      PennyPlanks x = new PennyPlanks();
      boolean bad = n < 1 || n > 60;
      check.isSo("abbot " + n, x.abbot(n) == BAD == bad);
      check.isSo("oak " + n, x.oak(n) == BAD == bad);
      check.isSo("delays " + n, x.delays(n) == BAD == bad);
      check.isSo("watch " + n, x.watch(n) == BAD == bad);
    }
    // What comes on the 60th day counts: there, a penny of day 59 is behind a delay of 1.
    PennyPlanks x = Check.laid("i2;d9;b0,1,9;o0;g0,1,14,0,0;");
    check.due("delay of 9 days at most", x.delays(60), 9);
    x.days(60);
    x.days(39);
    check.due("abbot behind day 99", x.abbot(60), 9);
    check.due("abbot behind day 99, let be", x.abbot(9), 0);
  }

  private static void abbotGivesUpToTwenty() {
    check.sentence("ABBOT: the least c (0 to 20)");
    for (int w = 1; w <= 40; w++) {
      PennyPlanks walker = Check.laid("i2;d1;b0,1,40;g0,1," + w + ",0,0;");
      check.due("abbot for " + w, walker.abbot(60), w <= 20 ? w : NONE);
      PennyPlanks cart = Check.laid("i2;d1;b0,1,40;g0,1," + w + ",0,1;");
      check.due("abbot for a cart of " + w, cart.abbot(60), w <= 10 ? 2 * w : NONE);
      PennyPlanks oak = Check.laid("i2;d1;b0,1,40;o0;g0,1," + w + ",0,0;");
      int lacks = w <= 5 ? 0 : w - 5;
      check.due("abbot with oak for " + w, oak.abbot(60), lacks <= 20 ? lacks : NONE);
    }
    check.due("for nobody", Check.laid("i2;d1;b0,1,0;").abbot(60), 0);
    check.due("where there is no way", Check.laid("i3;d1;b0,1,99;g0,2,1,0,0;").abbot(2), NONE);
  }

  private static void abbotLetsDelayBe() {
    check.sentence("nobody would WAIT in n days (1 to 60), the first DELAY ones of these let be");
    for (int d = 1; d <= 9; d++) {
      PennyPlanks x = Check.laid("i2;d" + d + ";b0,1,0;g0,1,6,0,0;");
      for (int day = 0; day <= 10; day += 10) {
        check.due("let be, delay " + d, x.abbot(d), 0);
        check.due("not let be, delay " + d, x.abbot(d + 1), 6);
        if (day == 0) x.days(10);
      }
    }
  }

  private static void abbotGivesAsWell() {
    check.sentence("were c put into each BOX on each day from now on as well");
    PennyPlanks x = Check.laid("i2;d1;b0,1,9;g0,1,1,5,0;g0,1,9,0,0;");
    check.due("beside 5 that are given", x.abbot(60), 4);
    PennyPlanks put = Check.laid("i2;d1;b0,1,9;g0,1,9,0,0;");
    put.put(0, 7);
    check.due("beside 7 that are put", put.abbot(2), 2);
    check.due("on the day behind nothing is put", put.abbot(3), 9);
    PennyPlanks each = Check.laid("i3;d1;b0,1,0;b1,2,0;g0,2,9,0,0;");
    check.due("into each box", each.abbot(60), 9);
  }

  private static void abbotGivesAheadOfGoers() {
    check.sentence("ahead of all GOERS");
    // His penny is there to be stolen by the first one; then it shows, but does not bear.
    String text = "i2;d1;b0,1,1;g0,1,1,1,3;g0,1,1,9,2;g0,1,10,0,0;";
    check.due("stolen on its day", Check.laid(text).abbot(5), 1);
  }

  private static void fallenDoNotWait() {
    PennyPlanks x = Check.laid("i2;d1;b0,1,9;g0,1,1,9,3;g0,1,9,0,0;");
    x.put(0, 9);
    check.due("they fall on day 1", x.all(2, 1), 2);
    check.due("nobody waits from then on", x.abbot(60), 0);
  }

  private static void oakOfOneWithout() {
    check.sentence("OAK: the BRIDGE without OAK; none (all have)");
    StringBuilder text = new StringBuilder("i2;" + "b0,1,0;".repeat(9) + "g0,1,9,0,0;");
    for (int b = 0; b < 9; b++) {
      check.due("first without, " + b + " have", Check.laid(text.toString()).oak(60), b);
      text.append("o").append(b).append(";");
    }
    check.due("all have", Check.laid(text.toString()).oak(60), NONE);
    check.due("all have, bad", Check.laid(text.toString()).oak(61), BAD);
    check.due("one alone", Check.laid("b0,1,0;").oak(1), 0);
    check.due("one alone has", Check.laid("b0,1,0;o0;").oak(1), NONE);
  }

  private static void oakOfSeveralTheLowest() {
    check.sentence("GOERS would WAIT least often in n days, of several the lowest");
    PennyPlanks x = Check.laid("i4;d1;b2,3,0;b0,1,0;b0,1,0;g0,1,5,0,0;");
    check.due("the lower one of two that help", x.oak(1), 1);
    check.due("on all days", x.oak(60), 1);
    check.due("of none that helps", Check.laid("i4;d1;b2,3,0;b0,1,0;g0,1,6,0,0;").oak(9), 0);
    // Bridge 0 helps on the first day alone, bridge 1 on all.
    PennyPlanks later = Check.laid("i3;d1;b0,1,1;b0,1,0;g0,1,6,0,0;g0,1,5,0,4;");
    check.due("for the first day", later.oak(1), 0);
    x.days(60);
    x.days(39);
    check.due("from day 99 on", x.oak(60), 1);
  }

  private static void oaksOfOthersStay() {
    PennyPlanks x = Check.laid("i3;d1;b0,1,0;b0,1,0;o1;b1,2,0;g0,2,5,0,0;");
    check.due("the one that is lacking", x.oak(9), 2);
    check.due("it has none yet", x.bridge(2, 3), 0);
    check.due("another has some still", x.bridge(1, 3), 1);
  }

  private static void delayOneToNine() {
    check.sentence("DELAYS: the DELAY (1 to 9) by which, were it so from now on");
    for (int d = 1; d <= 9; d++) {
      PennyPlanks x = Check.laid("i2;d9;b0,1,0;g0,1,5,5,0;");
      x.put(0, 5);
      check.due("days", x.days(d), d);
      check.due("so many days behind the pence", x.delays(1), d);
      check.due("the delay stays", x.count(3), 9);
      // Pence of the days ahead of day 0 last as long as the delay.
      check.due("as long as asked", Check.laid("i2;d3;b0,1,5;g0,1,5,0,0;").delays(d), d);
    }
    check.due("9 at most", Check.laid("i2;d3;b0,1,5;g0,1,5,0,0;").delays(60), 9);
  }

  private static void delayOfSeveralTheLowest() {
    PennyPlanks x = Check.laid("i2;d9;b0,1,0;g0,1,5,5,0;");
    check.due("never", x.delays(60), 1);
    x.put(0, 5);
    x.days(10);
    check.due("too long ago", x.delays(1), 1);
    check.due("for nobody", Check.laid("d4;b0,1,0;").delays(60), 1);
    check.due("always", Check.laid("i2;d9;b0,1,0;o0;g0,1,5,5,0;").delays(60), 1);
  }

  private static void watchOfSeveralTheLowest() {
    check.sentence("fewest would FALL in n days, of several the lowest");
    String thieves = "g0,1,1,4,0;g0,1,4,4,3;";
    PennyPlanks x = Check.laid("i4;d1;b2,3,9;b0,1,9;b0,1,0;" + thieves);
    check.due("nobody falls on the first day", x.watch(1), 0);
    check.due("somebody falls on the second", x.watch(2), 1);
    check.due("on all days", x.watch(60), 1);
    check.due("of one alone", Check.laid("i2;d1;b0,1,9;" + thieves).watch(60), 0);
    check.due("for nobody", Check.laid("b0,1,9;b0,1,9;").watch(60), 0);
    // Who is on his way to fall can not be helped by a guard from now on.
    x.days(1);
    check.due("too late", x.watch(60), 0);
  }

  private static void watchBesideGuards() {
    check.sentence("were it GUARDED from now on");
    String text = "i4;d1;b0,1,9;b2,3,9;g0,1,1,4,0;g0,1,4,4,3;g2,3,1,4,0;g2,3,4,4,3;";
    PennyPlanks x = Check.laid(text);
    check.due("fall", x.all(60, 1), 4);
    check.due("either", x.watch(60), 0);
    x.guard(0, true);
    check.due("the other one", x.watch(60), 1);
    x.guard(1, true);
    check.due("both are", x.watch(60), 0);
    check.due("guards stay", x.bridge(0, 4) + x.bridge(1, 4), 2);
  }

  private static void watchThoughGuardsDoHarm() {
    check.sentence("WATCH: the BOX such that, were it GUARDED from now on");
    // Who is kept from falling goes on, steals or gives elsewhere, and others fall by it.
    PennyPlanks x = Check.laid(
        "i4;d6;b3,1,48;b0,1,34;g1,0,17,15,4;g1,3,4,6,4;g0,3,1,7,2;g0,3,1,13,3;");
    check.due("fall if none is guarded", x.all(17, 1), 2);
    for (int b = 0; b < 2; b++) {
      x.guard(b, true);
      check.due("fall if " + b + " is guarded", x.all(17, 1), 3);
      x.undo();
    }
    check.due("a box all the same", x.watch(17), 0);
    check.due("in the longest time as well", x.watch(60), 0);
  }

  private static void sent(PennyPlanks x, int a, int b, int w, int pence, int bridges) {
    check.due("sent " + a + " " + b + " " + w, x.sent(a, b, w, 0), pence);
    check.due("bridges " + a + " " + b + " " + w, x.sent(a, b, w, 1), bridges);
  }

  private static void sentWhatItLacks() {
    check.sentence("for one who NEEDS w (1 to 40): what it lacks to w he sends ahead");
    PennyPlanks x = Check.laid("i2;d1;b0,1,0;");
    x.put(0, 7);
    for (int w = -1; w <= 42; w++) {
      if (w >= 1 && w <= 40) sent(x, 0, 1, w, w <= 7 ? 0 : w - 7, 1);
      else sent(x, 0, 1, w, BAD, BAD);
    }
    PennyPlanks oak = Check.laid("i2;d1;b0,1,0;o0;");
    for (int w = 1; w <= 40; w++) sent(oak, 1, 0, w, w <= 5 ? 0 : w - 5, 1);
  }

  private static void sentFirstInDelayDays() {
    check.sentence("the first one DELAY days from now");
    for (int d = 1; d <= 9; d++) {
      PennyPlanks x = Check.laid("i2;d" + d + ";b0,1,40;");
      sent(x, 0, 1, 40, 40, 1);
      x.put(0, 30);
      sent(x, 0, 1, 40, 10, 1);
      x.days(1);
      sent(x, 0, 1, 40, 40, 1);
    }
  }

  private static void sentOneADay() {
    check.sentence("by 1 to 8 BRIDGES, one a day: the k-th (0 first) has PLANKS on its day");
    // The walker puts 9 into box 0 on day 0, into box 1 on day 1, and comes back on days 2 and 3.
    String text = "i3;d4;b0,1,9;b1,2,9;g0,2,1,9,0;";
    sent(Check.laid(text), 0, 2, 9, 0, 2);
    // From 2 he goes to 1 and back to wait for the walker's pence of days 1 to 3.
    sent(Check.laid(text), 2, 0, 9, 9, 4);
    PennyPlanks x = Check.laid(text);
    x.days(2);
    sent(x, 2, 0, 9, 0, 2);
    sent(x, 0, 2, 9, 18, 2);
  }

  private static void sentFewestBridges() {
    check.sentence("The fewest pence in all; by ways of so few the fewest BRIDGES");
    PennyPlanks x = Check.laid("i3;d9;b0,1,0;b1,2,0;b0,2,0;o1;");
    sent(x, 0, 2, 5, 5, 1);
    x.put(0, 1);
    sent(x, 0, 2, 5, 4, 2);
    x.put(2, 1);
    sent(x, 0, 2, 5, 4, 1);
    x.put(2, 1);
    sent(x, 0, 2, 5, 3, 1);
  }

  private static void sentByEight() {
    check.sentence("by 1 to 8 BRIDGES");
    String line = "i8;d9;b3,4,0;b4,5,0;b5,6,0;b6,7,0;b7,0,0;b0,1,0;b1,2,0;";
    sent(Check.laid(line), 3, 2, 40, 280, 7);
    sent(Check.laid(line), 2, 3, 40, 280, 7);
    // The walker waits 2 days for bridge 0, so that he puts 4 into the last box on day 8 first; one
    // who is faithful puts a penny there on each day. The bridges between are of oak.
    String goers = "g3,2,1,4,0;g2,1,40,1,4;";
    PennyPlanks x = Check.laid("i8;d2;b3,4,0;b4,5,0;b5,6,0;b6,7,0;b7,0,0;b0,1,0;b1,2,1;"
        + "o1;o2;o3;o4;o5;" + goers);
    x.put(0, 1);
    check.due("he has crossed the last one", x.where(9, 0), 2);
    // The ninth bridge would be crossed on the pence of day 8.
    sent(x, 1, 2, 5, 4, 1);
    sent(x, 0, 2, 5, 4, 2);
    x.days(1);
    sent(x, 1, 2, 5, 4, 1);
    sent(x, 0, 2, 5, 0, 8);
    x.days(1);
    sent(x, 1, 2, 5, 0, 7);
  }

  private static void sentNoneAndAlike() {
    check.sentence("none; a and b alike: 0 pence, 0 BRIDGES");
    PennyPlanks x = Check.laid("i5;d9;b0,1,0;b2,3,0;");
    for (int a = 0; a < 5; a++) {
      for (int b = 0; b < 5; b++) {
        boolean beside = a / 2 == b / 2;
        if (a == b) sent(x, a, b, 40, 0, 0);
        else sent(x, a, b, 40, beside ? 40 : NONE, beside ? 1 : NONE);
      }
    }
    sent(x, 5, 5, 40, BAD, BAD);
    sent(x, -1, -1, 40, BAD, BAD);
    sent(x, 4, 4, 41, BAD, BAD);
    sent(x, 4, 4, 0, BAD, BAD);
    check.due("alike, what 2", x.sent(4, 4, 1, 2), BAD);
    check.due("none, what -1", x.sent(0, 4, 1, -1), BAD);
  }
}
