/** Promises 8 to 14: days that go by, pence, guards, what is undone, what is behind days. */
public final class DaysTest {
  private static final Check check = new Check("DaysTest");
  private static final int BAD = PennyPlanks.BAD, NO = PennyPlanks.NO, NONE = PennyPlanks.NONE;
  private static final String THIEVES = "i2;d1;b0,1,5;g0,1,1,3,0;g0,1,2,2,3;";

  public static void main(String[] args) {
    dayLimits();
    walker();
    cart();
    child();
    thief();
    smallThefts();
    faithful();
    turnsRound();
    putting();
    guarding();
    undoing();
    undoingEight();
    whereIs();
    planksBehind();
    inAll();
    check.end();
  }

  private static void dayLimits() {
    PennyPlanks x = new PennyPlanks();
    for (int n : new int[] {0, -1, 61, Integer.MIN_VALUE, Integer.MAX_VALUE}) {
      check.due("days " + n, x.days(n), BAD);
    }
    check.due("nothing to be undone", x.count(7), 0);
    check.due("days 60", x.days(60), 60);
    check.due("days 40", x.days(40), NO);
    check.due("day then", x.count(4), 60);
    check.due("undone then", x.count(7), 1);
    check.due("days 39", x.days(39), 99);
    check.due("days 1", x.days(1), NO);
    check.due("days 0 on the last", x.days(0), BAD);
    check.due("days 61 on the last", x.days(61), BAD);
    check.due("where behind the last", x.where(60, 0), x.where(59, 0));
  }

  private static void all(String text, int n, int waited, int fell, int given, int stolen) {
    PennyPlanks x = Check.laid(text);
    check.due("waited " + n + " " + text, x.all(n, 0), waited);
    check.due("fell " + n + " " + text, x.all(n, 1), fell);
    check.due("given " + n + " " + text, x.all(n, 2), given);
    check.due("stolen " + n + " " + text, x.all(n, 3), stolen);
  }

  private static void walker() {
    all("i2;d2;b0,1,5;g0,1,3,4,0;", 10, 0, 0, 40, 0);
    PennyPlanks x = Check.laid("i2;d2;b0,1,5;g0,1,3,4,0;");
    x.days(1);
    check.due("pence of ahead of day 0", x.bridge(0, 5), 5);
    check.due("nothing in the box", x.bridge(0, 7), 0);
    x.days(1);
    check.due("pence of day 0", x.bridge(0, 5), 4);
    // Gifts of 4 do not make the 5 planks that he needs.
    all("i2;d2;b0,1,5;g0,1,5,4,0;", 10, 8, 0, 8, 0);
    all("i2;d9;b0,1,5;g0,1,5,0,0;", 30, 21, 0, 0, 0);
  }

  private static void cart() {
    all("i2;d1;b0,1,5;g0,1,3,1,1;", 5, 5, 0, 0, 0);
    all("i2;d1;b0,1,6;g0,1,3,1,1;", 5, 4, 0, 1, 0);
    all("i2;d1;b0,1,6;g0,1,3,6,1;", 5, 0, 0, 30, 0);
  }

  private static void child() {
    String text = "i2;d1;b0,1,5;g0,1,2,5,2;";
    all(text, 1, 0, 0, 5, 0);
    all(text, 2, 0, 0, 5, 0);
    all(text, 6, 4, 0, 5, 0);
    PennyPlanks x = Check.laid(text);
    x.days(3);
    x.put(0, 2);
    // On day 4 he crosses and gives; on day 5 he crosses and does not; on day 6 he waits.
    check.due("child given", x.all(4, 2), 5);
    check.due("child waited", x.all(4, 0), 2);
  }

  private static void thief() {
    all(THIEVES, 1, 0, 0, 3, 2);
    all(THIEVES, 2, 0, 1, 6, 2);
    all(THIEVES, 9, 0, 1, 27, 2);
    PennyPlanks x = Check.laid(THIEVES);
    x.days(1);
    check.due("planks", x.bridge(0, 5), 1);
    check.due("shows", x.bridge(0, 6), 3);
    check.due("would take", x.goer(1, 6), 0);
    x.days(1);
    check.due("fallen", x.goer(1, 0), NONE);
    check.due("how many", x.count(5), 1);
    check.due("planks again", x.bridge(0, 5), 3);
    // The first goer can be the one who falls.
    PennyPlanks first = Check.laid("i2;d1;b0,1,5;g0,1,1,6,3;");
    first.put(0, 4);
    first.days(2);
    check.due("first fallen", first.count(5), 1);
  }

  private static void smallThefts() {
    all("i2;d1;b0,1,5;g0,1,1,3,0;g0,1,1,20,3;", 1, 0, 0, 3, 3);
    all("i2;d1;b0,1,5;g0,1,1,20,3;g0,1,1,3,0;", 1, 0, 0, 3, 0);
    all("i2;d1;b0,1,5;g0,1,1,9,0;g0,1,1,7,3;g0,1,1,7,3;", 1, 0, 0, 9, 9);
    PennyPlanks x = Check.laid("i2;d1;b0,1,5;g0,1,1,6,3;");
    x.put(0, 4);
    check.due("stolen of what was put", x.all(1, 3), 4);
    check.due("no planks left", x.planks(1, 0), 0);
    check.due("he falls", x.all(2, 1), 1);
    x.put(0, 4);
    check.due("planks left", x.planks(1, 0), 2);
    check.due("he does not fall", x.all(2, 1), 0);
  }

  private static void faithful() {
    String text = "i3;d1;b1,2,9;b0,1,0;b0,2,0;g0,1,4,6,4;";
    all(text, 1, 1, 0, 6, 0);
    PennyPlanks x = Check.laid(text);
    check.due("lowest beside him", x.planks(1, 1), 6);
    check.due("no other", x.planks(1, 2), 0);
    check.due("crosses then", x.where(2, 0), 1);
    all(text, 2, 1, 0, 12, 0);
    all("i3;b1,2,5;g0,1,1,6,4;", 3, 3, 0, 0, 0);
    // Others that wait give nothing.
    all("i2;d1;b0,1,0;g0,1,1,6,0;g0,1,1,6,1;g0,1,1,6,2;g0,1,1,6,3;", 4, 16, 0, 0, 0);
  }

  private static void turnsRound() {
    PennyPlanks x = Check.laid("i3;d9;b0,1,9;b1,2,9;g0,2,1,0,0;g2,1,1,0,0;");
    int[] places = {1, 2, 1, 0, 1, 2};
    int[] bounds = {2, 0, 0, 2, 2, 0};
    for (int k = 0; k < places.length; k++) {
      x.days(1);
      check.due("place " + k, x.goer(0, 0), places[k]);
      check.due("bound " + k, x.goer(0, 1), bounds[k]);
      check.due("other place " + k, x.goer(1, 0), k % 2 == 0 ? 1 : 2);
      check.due("other bound " + k, x.goer(1, 1), k % 2 == 0 ? 2 : 1);
    }
  }

  private static void putting() {
    PennyPlanks x = Check.laid("i2;d2;b0,1,5;b0,1,5;");
    check.due("put", x.put(0, 40), 40);
    check.due("put more", x.put(0, 59), 99);
    check.due("put too much", x.put(0, 1), NO);
    check.due("put elsewhere", x.put(1, 99), 99);
    check.due("in the box", x.bridge(0, 7), 99);
    check.due("to be undone", x.count(7), 3);
    check.due("put bad and too much", x.put(0, 100), BAD);
    check.due("put 0", x.put(0, 0), BAD);
    check.due("put -1", x.put(0, -1), BAD);
    check.due("put most", x.put(0, Integer.MAX_VALUE), BAD);
    check.due("put -1 bridge", x.put(-1, 1), BAD);
    check.due("put 2 bridge", x.put(2, 1), BAD);
    check.due("days", x.days(1), 1);
    check.due("put next day", x.put(0, 99), 99);
    check.due("planks", x.planks(1, 0), 99);
    check.due("planks behind", x.planks(3, 0), 0);
  }

  private static void guarding() {
    PennyPlanks x = Check.laid("i2;d1;b0,1,5;b0,1,0;g0,1,1,3,0;g0,1,2,2,3;");
    check.due("guard", x.guard(1, true), 1);
    check.due("stolen all the same", x.all(1, 3), 2);
    check.due("guard more", x.guard(0, true), 2);
    check.due("guarded", x.bridge(0, 4), 1);
    check.due("guard again", x.guard(0, true), 2);
    check.due("nothing stolen", x.all(9, 3), 0);
    check.due("nobody falls", x.all(9, 1), 0);
    x.days(1);
    check.due("guarded still", x.bridge(0, 4), 1);
    check.due("no more", x.guard(0, false), 1);
    check.due("no more again", x.guard(0, false), 1);
    check.due("not guarded", x.bridge(0, 4), 0);
    check.due("stolen", x.all(1, 3), 2);
    check.due("guard -1", x.guard(-1, true), BAD);
    check.due("guard 2", x.guard(2, false), BAD);
    check.due("to be undone", x.count(7), 6);
  }

  private static void undoing() {
    PennyPlanks x = Check.laid(THIEVES);
    x.put(0, 7);
    x.days(2);
    x.guard(0, true);
    x.put(0, 1);
    x.enter(0, 1, 1, true);
    check.due("undo put", x.undo(), 3);
    check.due("box", x.bridge(0, 7), 0);
    check.due("guarded", x.bridge(0, 4), 1);
    check.due("undo guard", x.undo(), 2);
    check.due("not guarded", x.bridge(0, 4), 0);
    check.due("day", x.count(4), 2);
    check.due("undo days", x.undo(), 1);
    check.due("day 0", x.count(4), 0);
    check.due("goer", x.goer(0, 0), 0);
    check.due("planks of ahead", x.bridge(0, 5), 5);
    check.due("box of day 0", x.bridge(0, 7), 7);
    check.due("put counts on", x.put(0, 92), 99);
    check.due("undo that", x.undo(), 1);
    check.due("undo put", x.undo(), 0);
    check.due("box empty", x.bridge(0, 7), 0);
    check.due("stolen as at first", x.all(1, 3), 2);
    check.due("undo none", x.undo(), NO);
    check.due("ledger stays", x.count(6), 1);
    x.days(2);
    check.due("fallen", x.count(5), 1);
    x.undo();
    check.due("risen", x.count(5), 0);
  }

  private static void undoingEight() {
    PennyPlanks x = Check.laid(THIEVES);
    for (int k = 1; k <= 10; k++) x.put(0, k);
    check.due("eight", x.count(7), 8);
    for (int k = 7; k >= 0; k--) check.due("undo " + k, x.undo(), k);
    check.due("undo no more", x.undo(), NO);
    check.due("two are left", x.bridge(0, 7), 3);
    for (int k = 1; k <= 20; k++) x.days(1);
    x.undo();
    x.undo();
    check.due("day", x.count(4), 18);
    x.guard(0, true);
    check.due("seven", x.count(7), 7);
    for (int k = 0; k < 7; k++) x.undo();
    check.due("first day of these", x.count(4), 12);
  }

  private static void whereIs() {
    PennyPlanks x = Check.laid(THIEVES);
    check.due("where 0", x.where(0, 1), 0);
    check.due("where 1", x.where(1, 1), 1);
    check.due("where 2", x.where(2, 1), NONE);
    check.due("where 60", x.where(60, 0), 0);
    check.due("where 59", x.where(59, 0), 1);
    check.due("nothing changes", x.count(4), 0);
    check.due("nothing to be undone", x.count(7), 0);
    check.due("where -1", x.where(-1, 0), BAD);
    check.due("where 61", x.where(61, 0), BAD);
    check.due("where of -1", x.where(1, -1), BAD);
    check.due("where of 2", x.where(1, 2), BAD);
  }

  private static void planksBehind() {
    PennyPlanks x = Check.laid(THIEVES);
    int[] due = {5, 1, 3, 3};
    for (int n = 0; n < due.length; n++) check.due("planks " + n, x.planks(n, 0), due[n]);
    check.due("planks 60", x.planks(60, 0), 3);
    check.due("planks -1", x.planks(-1, 0), BAD);
    check.due("planks 61", x.planks(61, 0), BAD);
    check.due("planks of -1", x.planks(1, -1), BAD);
    check.due("planks of 1", x.planks(1, 1), BAD);
    check.due("planks with oak", Check.laid("i2;d1;b0,1,5;o0;").planks(2, 0), 5);
    check.due("planks with oak first", Check.laid("i2;d1;b0,1,5;o0;").planks(0, 0), 10);
  }

  private static void inAll() {
    all(THIEVES, 0, 0, 0, 0, 0);
    PennyPlanks x = Check.laid(THIEVES);
    x.put(0, 9);
    check.due("given by goers alone", x.all(1, 2), 3);
    check.due("falls on day 2", x.all(3, 1), 1);
    x.days(3);
    check.due("fell ahead", x.all(9, 1), 0);
    check.due("given from now on", x.all(9, 2), 27);
    for (int n : new int[] {-1, 61}) check.due("all " + n, x.all(n, 0), BAD);
    for (int what : new int[] {-1, 4}) check.due("all what " + what, x.all(1, what), BAD);
  }
}
