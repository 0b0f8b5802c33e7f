/** Promises 1 to 7: the text, its fault, the delta that it lays, bridges and goers as told. */
public final class DeltaTest {
  private static final Check check = new Check("DeltaTest");
  private static final int BAD = PennyPlanks.BAD, NO = PennyPlanks.NO;
  private static final int FULL = PennyPlanks.FULL, NONE = PennyPlanks.NONE;

  public static void main(String[] args) {
    newObject();
    writing();
    wiping();
    soundTexts();
    faultyNumbers();
    faultyShapes();
    tooMany();
    laying();
    layingRefused();
    layingOverAnother();
    fullDelta();
    bridges();
    goers();
    ways();
    check.end();
  }

  private static void row(String call, int[] got, int... want) {
    for (int k = 0; k < want.length; k++) check.due(call + " " + k, got[k], want[k]);
  }

  private static int[] bridgeRow(PennyPlanks x, int b) {
    int[] row = new int[8];
    for (int what = 0; what < 8; what++) row[what] = x.bridge(b, what);
    return row;
  }

  private static int[] goerRow(PennyPlanks x, int i) {
    int[] row = new int[7];
    for (int what = 0; what < 7; what++) row[what] = x.goer(i, what);
    return row;
  }

  private static int[] counts(PennyPlanks x) {
    int[] row = new int[10];
    for (int what = 0; what < 10; what++) row[what] = x.count(what);
    return row;
  }

  private static void newObject() {
    PennyPlanks x = new PennyPlanks();
    row("new count", counts(x), 3, 3, 2, 7, 0, 0, 0, 0, 0, 0);
    row("new bridge 0", bridgeRow(x, 0), 0, 1, 4, 0, 0, 4, 4, 0);
    row("new bridge 1", bridgeRow(x, 1), 1, 2, 5, 0, 0, 5, 5, 0);
    row("new bridge 2", bridgeRow(x, 2), 0, 2, 2, 0, 0, 2, 2, 0);
    row("new goer 0", goerRow(x, 0), 0, 2, 3, 2, 0, 3, 0);
    row("new goer 1", goerRow(x, 1), 2, 0, 2, 1, 2, 2, 2);
    check.due("new fault", x.fault(), NONE);
    check.due("new undo", x.undo(), NO);
    check.due("new back", x.back(), NO);
  }

  private static void writing() {
    PennyPlanks x = new PennyPlanks();
    check.due("write 31", x.write(31), BAD);
    check.due("write 127", x.write(127), BAD);
    check.due("write -1", x.write(-1), BAD);
    check.due("write least", x.write(Integer.MIN_VALUE), BAD);
    check.due("write 32", x.write(32), 1);
    check.due("write 126", x.write(126), 2);
    for (int k = 3; k <= 200; k++) check.due("write " + k, x.write('a'), k);
    check.due("write 201st", x.write('a'), FULL);
    check.due("write 201st, bad", x.write(31), BAD);
    check.due("length", x.count(9), 200);
    check.due("fault of full", x.fault(), 0);
    check.due("wipe of full", x.wipe(), 200);
  }

  private static void wiping() {
    PennyPlanks x = Check.laid("i5;b0,4,3;");
    check.due("wipe", x.wipe(), 10);
    check.due("wipe again", x.wipe(), 0);
    check.due("length wiped", x.count(9), 0);
    check.due("islands of wiped", x.count(0), 5);
    check.due("write behind wipe", x.write('i'), 1);
  }

  private static void faultOf(String text, int want) {
    check.due("fault of " + text, Check.written(text).fault(), want);
  }

  private static void soundTexts() {
    String[] sound = {
      "", "i2;", "i8;", "i08;", "i02;", "i3;i5;", "i2;i3;b0,2,1;", "d1;", "d9;", "d1;d9;d3;",
      "d09;", "b0,3,0;", "b3,0,99;", "b00,01,07;", "b0,1,1;o0;", "b0,1,1;o0;o0;",
      "i2;d1;b0,1,1;b0,1,1;o1;o0;g0,1,1,0,0;g1,0,40,20,4;", "g0,1,1,0,0;b0,1,1;", "g3,0,1,20,3;"
    };
    for (String text : sound) faultOf(text, NONE);
  }

  private static void faultyNumbers() {
    String[] first = {
      "i0;", "i1;", "i9;", "i10;", "d0;", "d10;", "b0,4,0;", "b4,0,0;", "b1,1,5;", "o0;",
      "g0,1,0,0,0;", "g0,1,41,0,0;", "g0,1,1,21,0;", "g0,1,1,0,5;", "g1,1,1,0,0;", "g0,4,1,0,0;",
      "g4,0,1,0,0;"
    };
    for (String text : first) faultOf(text, 0);
    faultOf("i2;b0,2,1;", 3);
    faultOf("i3;i2;b0,2,1;", 6);
    faultOf("d3;i3;", 3);
    faultOf("b0,1,1;i3;", 7);
    faultOf("i3;d3;i3;", 6);
    faultOf("i3;i1;i3;", 3);
    faultOf("d1;d0;", 3);
    faultOf("b0,1,1;o1;", 7);
    faultOf("o0;b0,1,1;", 0);
    faultOf("i2;b0,1,1;b1,1,1;o5;", 10);
  }

  private static void faultyShapes() {
    String[] first = {
      "i", "i3", "i;", "i3,;", "i3,4;", "i,3;", "i003;", "i-3;", "i 3;", " i3;", "I3;", "D3;",
      "x1;", "b0.1.1;", "b0,1:1;", ";", "3;", ",", "b0,1;", "b0,1,2,3;", "b0,,1;", "b0,1,100;",
      "b0;1;1;", "b0,1,1,", "b0,1,1",
      "o;", "d;", "d1,1;", "g0,1,1,1;", "g0,1,1,1,1,1;", "g0,1,1,1,1,", "a0,1,1;", "bo,1,1;", "i3:",
      "g0,1,1,1,1,1,1,1;"
    };
    for (String text : first) faultOf(text, 0);
    faultOf("i3;;", 3);
    faultOf("i3; d1;", 3);
    faultOf("i3;d1; ", 6);
    faultOf("i3;b0,1,1", 3);
    faultOf("b0,1,1;b0,1,1", 7);
    faultOf("b0,1,1;o0,0;", 7);
  }

  private static void tooMany() {
    String nine = "b0,1,1;".repeat(9);
    faultOf(nine, NONE);
    faultOf(nine + "b0,1,1;", 63);
    faultOf(nine + "o8;", NONE);
    faultOf(nine + "o9;", 63);
    String five = "g0,1,1,1,1;".repeat(5);
    faultOf(five, NONE);
    faultOf(five + "g0,1,1,1,1;", 55);
  }

  private static void laying() {
    PennyPlanks x = Check.written("i5;d1;d3;b0,4,2;b1,2,0;o0;g4,0,6,7,1;");
    x.put(0, 5);
    x.guard(1, true);
    x.days(3);
    x.keep();
    x.enter(0, 1, 2, true);
    check.due("lay", x.lay(), 5);
    row("laid count", counts(x), 5, 2, 1, 3, 0, 0, 0, 0, 0, 37);
    row("laid bridge 0", bridgeRow(x, 0), 0, 4, 2, 1, 0, 7, 7, 0);
    row("laid bridge 1", bridgeRow(x, 1), 1, 2, 0, 0, 0, 0, 0, 0);
    row("laid goer", goerRow(x, 0), 4, 0, 6, 7, 1, 12, NONE);
    check.due("laid span", x.span(0, 1, 0), 0);
    check.due("laid undo", x.undo(), NO);
    check.due("laid back", x.back(), NO);
    check.due("laid again", x.lay(), 5);
    check.due("islands without", Check.written("b0,3,1;").lay(), 4);
    check.due("delay without", Check.laid("b0,3,1;").count(3), 7);
    check.due("no goers", Check.laid("b0,3,1;").count(2), 0);
    check.due("goer of none", Check.laid("b0,3,1;").goer(0, 0), BAD);
  }

  private static void layingRefused() {
    for (String text : new String[] {"", "i3;", "i3;d2;g0,1,1,1,1;", "b0,1,1;x", "b0,1,1;i3;"}) {
      PennyPlanks x = Check.written(text);
      x.days(2);
      x.guard(1, true);
      x.keep();
      x.enter(0, 1, 2, true);
      check.due("lay of " + text, x.lay(), NO);
      row("refused " + text, counts(x), 3, 3, 2, 7, 2, 0, 1, 2, 1, text.length());
      check.due("guarded of refused " + text, x.bridge(1, 4), 1);
      check.due("fault then " + text, x.fault(), Check.written(text).fault());
      check.due("bridge of refused " + text, x.bridge(2, 2), 2);
    }
  }

  private static void layingOverAnother() {
    PennyPlanks x = Check.laid("i2;d1;b0,1,5;g0,1,1,3,0;g0,1,2,2,3;");
    check.due("fault again", x.fault(), NONE);
    x.days(2);
    x.put(0, 7);
    x.guard(0, true);
    check.due("lay again", x.lay(), 2);
    row("laid again", counts(x), 2, 1, 2, 1, 0, 0, 0, 0, 0, 35);
    row("bridge laid again", bridgeRow(x, 0), 0, 1, 5, 0, 0, 5, 5, 0);
    check.due("stolen again", x.all(1, 3), 2);
    x.days(2);
    x.wipe();
    Check.write(x, "i5;d3;b4,3,9;o0;b");
    check.due("fault of the next", x.fault(), 16);
    check.due("lay refused", x.lay(), NO);
    row("as before", counts(x), 2, 1, 2, 1, 2, 1, 0, 1, 0, 17);
    row("bridge as before", bridgeRow(x, 0), 0, 1, 5, 0, 0, 3, 3, 0);
    x.wipe();
    Check.write(x, "b2,3,9;d5;");
    check.due("lay the next", x.lay(), 4);
    row("the next", counts(x), 4, 1, 0, 5, 0, 0, 0, 0, 0, 10);
    row("bridge of the next", bridgeRow(x, 0), 2, 3, 9, 0, 0, 9, 9, 0);
  }

  /** With as many of all as there can be, no row is left or run over. */
  private static void fullDelta() {
    StringBuilder text = new StringBuilder("i8;d9;");
    for (int b = 0; b < 9; b++) text.append("b").append(b % 8).append(",").append((b + 1) % 8)
        .append(",9;");
    for (int i = 0; i < 5; i++) text.append("g").append(i).append(",7,").append(1 + i)
        .append(",9,").append(i).append(";");
    PennyPlanks x = Check.laid(text.toString());
    row("full", counts(x), 8, 9, 5, 9, 0, 0, 0, 0, 0, text.length());
    row("last bridge", bridgeRow(x, 8), 0, 1, 9, 0, 0, 9, 9, 0);
    row("last goer", goerRow(x, 4), 4, 7, 5, 9, 4, 5, 4);
    check.due("one more bridge", x.bridge(9, 0), BAD);
    check.due("one more goer", x.goer(5, 0), BAD);
    check.due("abbot of full", x.abbot(1), 0);
    check.due("oak of full", x.oak(9), 0);
    check.due("delays of full", x.delays(9) > 0 ? 1 : 0, 1);
    check.due("watch of full", x.watch(9), 0);
    check.due("sent of full", x.sent(0, 7, 9, 0), 0);
    check.due("rumour of full", x.rumour(4, 8, 0, 0), 16);
    check.due("year of full", x.year(9999, 9, 1), x.all(9, 1));
  }

  private static void bridges() {
    PennyPlanks x = Check.laid("i2;d1;b0,1,5;b1,0,0;o1;g0,1,1,3,0;g0,1,2,2,3;");
    row("bridge 0", bridgeRow(x, 0), 0, 1, 5, 0, 0, 5, 5, 0);
    row("bridge 1", bridgeRow(x, 1), 1, 0, 0, 1, 0, 5, 5, 0);
    x.put(1, 8);
    x.guard(1, true);
    row("bridge 1 guarded", bridgeRow(x, 1), 1, 0, 0, 1, 1, 5, 5, 8);
    x.days(1);
    row("bridge 0 stolen from", bridgeRow(x, 0), 0, 1, 5, 0, 0, 1, 3, 0);
    row("bridge 1 paid", bridgeRow(x, 1), 1, 0, 0, 1, 1, 13, 13, 0);
    for (int b : new int[] {-1, 2, 9, 100, Integer.MIN_VALUE, Integer.MAX_VALUE}) {
      for (int what = 0; what < 8; what++) check.due("bridge " + b, x.bridge(b, what), BAD);
    }
    check.due("bridge what -1", x.bridge(0, -1), BAD);
    check.due("bridge what 8", x.bridge(0, 8), BAD);
  }

  private static void goers() {
    PennyPlanks x = Check.laid("i2;d1;b0,1,9;g0,1,4,20,1;g1,0,5,0,1;g0,1,9,1,2;g1,0,10,2,4;");
    row("cart", goerRow(x, 0), 0, 1, 4, 20, 1, 8, 0);
    row("heavy cart", goerRow(x, 1), 1, 0, 5, 0, 1, 10, NONE);
    row("child", goerRow(x, 2), 0, 1, 9, 1, 2, 9, 0);
    row("faithful", goerRow(x, 3), 1, 0, 10, 2, 4, 10, NONE);
    for (int i : new int[] {-1, 4, 5, 99, Integer.MIN_VALUE, Integer.MAX_VALUE}) {
      for (int what = 0; what < 7; what++) check.due("goer " + i, x.goer(i, what), BAD);
    }
    check.due("goer what -1", x.goer(0, -1), BAD);
    check.due("goer what 7", x.goer(0, 7), BAD);
    PennyPlanks thieves = Check.laid("i2;d1;b0,1,5;g0,1,1,3,0;g0,1,2,2,3;");
    thieves.days(2);
    row("fallen", goerRow(thieves, 1), NONE, 0, 2, 2, 3, 2, NONE);
  }

  private static void ways() {
    String two = "i4;b0,1,9;b1,3,9;b0,2,9;b2,3,9;b0,3,3;g0,3,5,0,0;g0,3,3,0,0;";
    check.due("lowest of two ways", Check.laid(two).goer(0, 6), 0);
    check.due("fewest bridges", Check.laid(two).goer(1, 6), 4);
    String crossed = "i4;b1,3,9;b0,2,9;b2,3,9;b0,1,9;g0,3,5,0,0;";
    check.due("lowest first bridge", Check.laid(crossed).goer(0, 6), 1);
    String alike = "i2;b0,1,1;b1,0,5;b0,1,5;g0,1,5,0,0;";
    check.due("lowest beside", Check.laid(alike).goer(0, 6), 1);
    String line = "i8;b0,1,9;b1,2,9;b2,3,9;b3,4,9;b4,5,9;b5,6,9;b6,7,9;g0,7,9,0,0;g7,0,9,0,0;";
    check.due("longest way", Check.laid(line).goer(0, 6), 0);
    check.due("longest way back", Check.laid(line).goer(1, 6), 6);
    check.due("at its end", Check.laid(line).where(7, 0), 7);
    String cut = "i8;b0,1,9;b1,2,9;b2,3,9;b3,4,8;b4,5,9;b5,6,9;b6,7,9;g0,7,9,0,0;";
    check.due("cut way", Check.laid(cut).goer(0, 6), NONE);
  }
}
