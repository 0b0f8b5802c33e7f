/** Promises 15 to 19: what should be given, planked, delayed, watched, and sent ahead. */
public final class ShouldTest {
  private static final Check check = new Check("ShouldTest");
  private static final int BAD = PennyPlanks.BAD, NONE = PennyPlanks.NONE;

  public static void main(String[] args) {
    badDays();
    abbot();
    oak();
    delays();
    watch();
    sent();
    sentRoundAbout();
    sentEightAtMost();
    sentBad();
    nothingChanges();
    check.end();
  }

  private static void badDays() {
    PennyPlanks x = new PennyPlanks();
    for (int n : new int[] {0, -1, 61, Integer.MIN_VALUE, Integer.MAX_VALUE}) {
      check.due("abbot " + n, x.abbot(n), BAD);
      check.due("oak " + n, x.oak(n), BAD);
      check.due("delays " + n, x.delays(n), BAD);
      check.due("watch " + n, x.watch(n), BAD);
    }
  }

  private static void abbot() {
    PennyPlanks x = Check.laid("i2;d2;b0,1,0;g0,1,5,0,0;");
    check.due("abbot 1", x.abbot(1), 0);
    check.due("abbot 2", x.abbot(2), 0);
    check.due("abbot 3", x.abbot(3), 5);
    check.due("abbot 60", x.abbot(60), 5);
    x.put(0, 3);
    check.due("as well", x.abbot(3), 2);
    check.due("as well, longer", x.abbot(4), 5);
    check.due("most", Check.laid("i2;d2;b0,1,0;g0,1,20,0,0;").abbot(3), 20);
    check.due("none", Check.laid("i2;d2;b0,1,0;g0,1,21,0,0;").abbot(3), NONE);
    check.due("no way", Check.laid("i3;d2;b0,1,0;g0,2,1,0,0;").abbot(3), NONE);
    check.due("no goers", Check.laid("b0,1,0;").abbot(60), 0);
    // His penny is stolen ahead of the child's, so that the walker falls, and waits no more.
    String ahead = "i2;d1;b0,1,1;g0,1,1,1,3;g0,1,1,9,2;g0,1,10,0,0;";
    check.due("ahead of goers", Check.laid(ahead).abbot(5), 1);
  }

  private static void oak() {
    PennyPlanks x = Check.laid("i3;d1;b0,1,3;b1,2,3;b0,2,0;g0,2,5,5,0;");
    check.due("oak", x.oak(10), 2);
    check.due("lowest", Check.laid("i2;b0,1,0;b0,1,0;g0,1,9,0,0;").oak(10), 0);
    check.due("lowest without", Check.laid("i2;b0,1,0;o0;b0,1,0;g0,1,9,0,0;").oak(60), 1);
    check.due("none", Check.laid("i2;b0,1,0;o0;b0,1,0;o1;g0,1,9,0,0;").oak(1), NONE);
    String better = "i2;d1;b0,1,0;b0,1,1;g0,1,6,0,0;";
    check.due("on the first day", Check.laid(better).oak(1), 1);
  }

  private static void delays() {
    PennyPlanks x = Check.laid("i2;d9;b0,1,0;g0,1,5,5,0;");
    check.due("alike", x.delays(60), 1);
    x.put(0, 5);
    check.due("soonest", x.delays(10), 1);
    x.days(4);
    check.due("one day", x.delays(1), 4);
    check.due("four days", x.delays(4), 4);
    check.due("nine days", x.delays(9), 4);
    x.days(1);
    check.due("a day later", x.delays(1), 5);
    check.due("the delay stays", x.count(3), 9);
    // Pence of ahead of day 0 last as long as the delay.
    check.due("longest", Check.laid("i2;d1;b0,1,5;g0,1,5,0,0;").delays(9), 9);
    check.due("long enough", Check.laid("i2;d1;b0,1,5;g0,1,5,0,0;").delays(3), 3);
  }

  private static void watch() {
    PennyPlanks x = Check.laid("i2;d1;b0,1,0;b0,1,3;g0,1,1,3,0;g0,1,2,2,3;");
    check.due("watch", x.watch(5), 1);
    check.due("nobody falls yet", x.watch(1), 0);
    x.guard(1, true);
    check.due("guarded", x.watch(5), 0);
    x.guard(1, false);
    check.due("no more", x.watch(5), 1);
    check.due("guards stay", x.bridge(1, 4), 0);
    x.days(1);
    check.due("too late", x.watch(5), 0);
  }

  private static void sent(PennyPlanks x, int a, int b, int w, int pence, int bridges) {
    check.due("sent " + a + " " + b + " " + w, x.sent(a, b, w, 0), pence);
    check.due("bridges " + a + " " + b + " " + w, x.sent(a, b, w, 1), bridges);
  }

  private static void sent() {
    PennyPlanks x = Check.laid("i4;d2;b0,1,9;b1,2,9;o1;b0,2,9;");
    sent(x, 0, 2, 9, 9, 1);
    sent(x, 2, 0, 9, 9, 1);
    sent(x, 1, 2, 9, 4, 1);
    sent(x, 1, 2, 5, 0, 1);
    sent(x, 0, 3, 1, NONE, NONE);
    sent(x, 0, 0, 40, 0, 0);
    sent(x, 3, 3, 1, 0, 0);
    x.put(0, 9);
    sent(x, 0, 2, 9, 4, 2);
    // The pence of today are planks of the first day alone.
    sent(x, 2, 0, 9, 9, 1);
    // The first of two side by side is the cheaper one, or the second.
    sent(Check.laid("i2;d1;b0,1,0;o0;b0,1,0;"), 0, 1, 9, 4, 1);
    sent(Check.laid("i2;d1;b0,1,0;b0,1,0;o1;"), 1, 0, 9, 4, 1);
    // As dear as the straight way, but longer.
    PennyPlanks tie = Check.laid("i3;d9;b0,1,0;b1,2,0;b0,2,0;");
    tie.put(0, 9);
    sent(tie, 0, 2, 9, 9, 1);
    tie.put(2, 1);
    sent(tie, 0, 2, 9, 8, 1);
    // Stolen pence are no planks.
    PennyPlanks thief = Check.laid("i2;d3;b0,1,9;g0,1,1,6,3;");
    thief.put(0, 7);
    sent(thief, 0, 1, 7, 6, 1);
    thief.guard(0, true);
    sent(thief, 0, 1, 7, 0, 1);
  }

  private static void sentRoundAbout() {
    String text = "i4;d1;b0,1,0;b1,2,1;b0,3,0;b1,3,0;o0;o2;o3;g2,1,40,1,4;g1,2,1,4,2;";
    PennyPlanks x = Check.laid(text);
    sent(x, 1, 2, 5, 0, 1);
    sent(x, 0, 2, 5, 0, 3);
    x.days(1);
    // The child gives on even days alone: it is worth while to go round and come by again.
    sent(x, 1, 2, 5, 0, 4);
    sent(x, 1, 2, 6, 4, 4);
    sent(x, 1, 2, 9, 8, 1);
    PennyPlanks line = Check.laid("i8;b0,1,0;b1,2,0;b2,3,0;b3,4,0;b4,5,0;b5,6,0;b6,7,0;");
    sent(line, 0, 7, 40, 280, 7);
    line.days(60);
    line.days(39);
    sent(line, 7, 0, 40, 280, 7);
  }

  private static void sentEightAtMost() {
    String oaks = "o0;o1;o2;o3;o4;o5;";
    String bridges = "b3,4,0;b4,5,0;b5,6,0;b6,7,0;b7,0,0;b0,1,0;b1,2,1;";
    PennyPlanks x = Check.laid("i8;d9;" + bridges + oaks + "g3,2,1,4,0;g2,1,40,1,4;");
    // There is a penny a day on the last bridge, and 4 more on days 6, 7, 20 and 21.
    sent(x, 1, 2, 5, 0, 7);
    sent(x, 0, 2, 5, 0, 8);
    x.days(12);
    sent(x, 1, 2, 5, 4, 1);
    x.days(1);
    sent(x, 1, 2, 5, 4, 1);
    sent(x, 0, 2, 5, 0, 8);
    x.days(1);
    sent(x, 1, 2, 5, 0, 7);
  }

  private static void sentBad() {
    PennyPlanks x = new PennyPlanks();
    check.due("from -1", x.sent(-1, 0, 1, 0), BAD);
    check.due("from 3", x.sent(3, 0, 1, 0), BAD);
    check.due("to -1", x.sent(0, -1, 1, 0), BAD);
    check.due("to 3", x.sent(0, 3, 1, 0), BAD);
    check.due("w 0", x.sent(0, 1, 0, 0), BAD);
    check.due("w 41", x.sent(0, 1, 41, 1), BAD);
    check.due("what -1", x.sent(0, 1, 1, -1), BAD);
    check.due("what 2", x.sent(0, 1, 1, 2), BAD);
    check.due("alike, w 41", x.sent(1, 1, 41, 0), BAD);
    check.due("alike, what 2", x.sent(1, 1, 1, 2), BAD);
    check.due("alike, 3", x.sent(3, 3, 1, 0), BAD);
  }

  private static void nothingChanges() {
    PennyPlanks x = Check.laid("i2;d1;b0,1,5;g0,1,1,3,0;g0,1,2,2,3;");
    x.put(0, 1);
    x.abbot(60);
    x.oak(60);
    x.delays(60);
    x.watch(60);
    x.sent(0, 1, 40, 0);
    check.due("day", x.count(4), 0);
    check.due("undone", x.count(7), 1);
    check.due("box", x.bridge(0, 7), 1);
    check.due("oak", x.bridge(0, 3), 0);
    check.due("guarded", x.bridge(0, 4), 0);
    check.due("where", x.where(1, 0), 1);
    check.due("planks", x.planks(1, 0), 2);
    PennyPlanks y = Check.laid("i2;d2;b0,1,0;g0,1,5,0,0;");
    check.due("abbot gives", y.abbot(9), 5);
    check.due("abbot has not given", y.all(9, 0), 9);
    check.due("nothing in the box", y.planks(2, 0), 0);
  }
}
