import java.util.Arrays;

/** Section 1 of the document, promises 1 to 5: sentences with an edge, on both sides of it. */
public final class TextEdgeTest {
  private static final Check check = new Check("TextEdgeTest");
  private static final int BAD = PennyPlanks.BAD, NO = PennyPlanks.NO;
  private static final int FULL = PennyPlanks.FULL, NONE = PennyPlanks.NONE;
  private static final int MOST_FIGURES = 99;
  private static final String FIRST = "i3;b0,1,4;b1,2,5;b0,2,2;g0,2,3,2,0;g2,0,2,1,2;";

  public static void main(String[] args) {
    twoHundredLetters();
    cutByTheLimit();
    lettersOfAscii();
    oneOrTwoFigures();
    figuresAlone();
    partedAndEnded();
    lettersOfItems();
    islandsTold();
    islandsWithout();
    islandsAhead();
    delayTold();
    delayWithout();
    endsOfABridge();
    penceOfABridge();
    nineBridges();
    oakToldAhead();
    oakAgain();
    endsOfAGoer();
    numbersOfAGoer();
    fiveGoers();
    firstFault();
    aBridgeAtLeast();
    laidAtFirst();
    wiped();
    laidAnew();
    check.end();
  }

  private static void faultOf(String text, int want) {
    check.due("fault of " + text, Check.written(text).fault(), want);
  }

  private static void faultIf(boolean faulty, String text, int place) {
    faultOf(text, faulty ? place : NONE);
  }

  /** Bridges, goers and then so many delays that the text has 200 letters. */
  private static String twoHundred() {
    return "b0,1,1;".repeat(9) + "g0,1,1,1,1;".repeat(5) + "d1;".repeat(26) + "d01;";
  }

  private static void twoHundredLetters() {
    check.sentence("A TEXT is letters (200 at most)");
    PennyPlanks x = Check.written(twoHundred().substring(0, 199));
    check.due("letters", x.count(9), 199);
    check.due("fault of 199", x.fault(), 196);
    check.due("lay of 199", x.lay(), NO);
    check.due("write the 200th", x.write(';'), 200);
    check.due("fault of 200", x.fault(), NONE);
    check.due("write the 201st", x.write(';'), FULL);
    check.due("write the 201st again", x.write('i'), FULL);
    check.due("letters then", x.count(9), 200);
    check.due("fault then", x.fault(), NONE);
    check.due("lay of 200", x.lay(), 4);
    check.due("bridges", x.count(1), 9);
    check.due("goers", x.count(2), 5);
    check.due("delay", x.count(3), 1);
    check.due("wipe", x.wipe(), 200);
    check.due("write behind it", x.write('i'), 1);
  }

  private static void cutByTheLimit() {
    String items = "b0,1,1;".repeat(9) + "g0,1,1,1,1;".repeat(5) + "d1;".repeat(27);
    PennyPlanks x = Check.written(items + "d1;");
    check.due("letters of 202", x.count(9), 200);
    check.due("fault of the item that is cut", x.fault(), 199);
    check.due("lay of it", x.lay(), NO);
  }

  private static void lettersOfAscii() {
    check.sentence("A letter (32 to 126, as in ASCII)");
    PennyPlanks x = new PennyPlanks();
    int length = 0;
    for (int letter = -5; letter <= 135; letter++) {
      boolean is = letter >= 32 && letter <= 126;
      if (is) length++;
      check.due("write " + letter, x.write(letter), is ? length : BAD);
    }
    check.due("letters", x.count(9), 95);
    // These are letters when they are cut to fewer bits.
    for (int letter : new int[] {256 + 'i', 65536 + 'i', 'i' - 256, Integer.MIN_VALUE + 'i',
        Integer.MIN_VALUE, Integer.MAX_VALUE}) {
      check.due("write " + letter, x.write(letter), BAD);
    }
    check.due("letters then", x.count(9), 95);
  }

  private static String item(String letter, String[] numbers) {
    return letter + String.join(",", numbers) + ";";
  }

  private static void oneOrTwoFigures() {
    check.sentence("numbers (one or two figures)");
    String bridge = "b0,1,1;";
    for (String[] told : new String[][] {{"", "i", "3"}, {"", "d", "3"}, {"", "b", "1", "2", "3"},
        {bridge, "o", "0"}, {"", "g", "1", "2", "3", "4", "1"}}) {
      String[] numbers = Arrays.copyOfRange(told, 2, told.length);
      faultOf(told[0] + item(told[1], numbers), NONE);
      for (int k = 0; k < numbers.length; k++) {
        String one = numbers[k];
        for (String figures : new String[] {"0" + one, "", "00" + one, "-" + one, "+" + one, "x",
            " " + one, one + " ", one + "x", one + "."}) {
          numbers[k] = figures;
          faultIf(!figures.equals("0" + one), told[0] + item(told[1], numbers), told[0].length());
        }
        numbers[k] = one;
      }
    }
  }

  private static void figuresAlone() {
    check.sentence("each a letter, then numbers (one or two figures)");
    // P can be any number, so only the sign itself can be at fault.
    for (char sign = 32; sign <= 126; sign++) {
      boolean figure = sign >= '0' && sign <= '9';
      faultIf(!figure, "b0,1," + sign + ";", 0);
      faultIf(!figure, "b0,1," + sign + "1;", 0);
      // A ; ends the item well, and the next one is not so.
      faultIf(!figure, "b0,1,1" + sign + ";", sign == ';' ? 7 : 0);
    }
  }

  private static void partedAndEnded() {
    check.sentence("parted by , and a ; behind the last one");
    for (String mark : new String[] {"", ";", ".", " ", ",,", "+", "-"}) {
      faultOf("b0" + mark + "1,1;", 0);
      faultOf("b0,1" + mark + "1;", 0);
      faultOf("g0,1,2,2" + mark + "1;", 0);
    }
    for (String mark : new String[] {"", ",", ":", " ;", ",;", "<"}) {
      faultOf("d3" + mark, 0);
      faultOf("b0,1,1" + mark, 0);
      faultOf("d3;b0,1,1" + mark, 3);
    }
    faultOf("d3;;", 3);
    faultOf(";", 0);
  }

  private static void lettersOfItems() {
    check.sentence("ITEMS one behind the other, each a letter, then numbers");
    String[] numbers = {"2", "2,1", "2,1,3", "2,1,3,4", "2,1,3,4,1", "2,1,3,4,1,1",
      "2,1,3,4,1,1,1"};
    for (char letter = 32; letter <= 126; letter++) {
      for (int many = 1; many <= numbers.length; many++) {
        boolean is = many == 1 && (letter == 'i' || letter == 'd') || many == 3 && letter == 'b'
            || many == 5 && letter == 'g';
        faultIf(!is, letter + numbers[many - 1] + ";", 0);
      }
    }
    for (int many = 1; many <= numbers.length; many++) {
      faultIf(many > 1, "b0,1,1;b0,1,1;b0,1,1;o" + numbers[many - 1] + ";", 21);
    }
  }

  private static void islandsTold() {
    check.sentence("iN there are N ISLANDS, 0 to N less 1 (2 to 8");
    for (int n = 0; n <= MOST_FIGURES; n++) {
      faultIf(n < 2 || n > 8, "i" + n + ";", 0);
      if (n < 2 || n > 8) continue;
      PennyPlanks x = Check.written("i" + n + ";b0," + (n - 1) + ",1;");
      check.due("lay of " + n, x.lay(), n);
      check.due("islands of " + n, x.count(0), n);
      check.due("the last of " + n, x.sent(0, n - 1, 1, 1), 1);
      check.due("one more than " + n, x.sent(0, n, 1, 1), BAD);
    }
    faultOf("i8;i2;b0,2,1;", 6);
    faultOf("i2;i8;b0,7,1;", NONE);
  }

  private static void islandsWithout() {
    check.sentence("4 without");
    faultOf("b3,0,1;", NONE);
    faultOf("b4,0,1;", 0);
    faultOf("g0,3,1,1,1;", NONE);
    faultOf("g0,4,1,1,1;", 0);
    check.due("lay", Check.written("b0,3,1;").lay(), 4);
  }

  private static void islandsAhead() {
    check.sentence("no other ITEM ahead of it but i");
    faultOf("i5;i6;i7;", NONE);
    for (String ahead : new String[] {"d3;", "b0,1,1;", "b0,1,1;o0;", "g0,1,1,1,1;", "i4;d3;"}) {
      faultOf(ahead, NONE);
      faultOf(ahead + "i4;", ahead.length());
      faultOf("i4;" + ahead, NONE);
    }
  }

  private static void delayTold() {
    check.sentence("dD the DELAY is D days (1 to 9");
    for (int d = 0; d <= MOST_FIGURES; d++) {
      faultIf(d < 1 || d > 9, "d" + d + ";", 0);
      if (d < 1 || d > 9) continue;
      check.due("delay " + d, Check.laid("b0,1,1;d" + d + ";").count(3), d);
    }
  }

  private static void delayWithout() {
    check.sentence("7 without; the last one");
    check.due("without", Check.laid("b0,1,1;").count(3), 7);
    check.due("the last one", Check.laid("d1;b0,1,1;d9;g0,1,1,1,1;d2;").count(3), 2);
    check.due("the one ahead is faulty", Check.written("d0;d2;b0,1,1;").lay(), NO);
    // What was laid before does not tell the delay of what is laid then.
    PennyPlanks x = Check.laid("i8;d2;b0,7,1;");
    x.wipe();
    Check.write(x, "b0,1,1;");
    check.due("lay without", x.lay(), 4);
    check.due("without, then", x.count(3), 7);
  }

  private static void ends(String letter, String more) {
    for (int n = 2; n <= 8; n++) {
      for (int a = 0; a <= 9; a++) {
        for (int b = 0; b <= 9; b++) {
          String text = "i" + n + ";" + letter + a + "," + b + more;
          faultIf(a >= n || b >= n || a == b, text, 3);
        }
      }
    }
  }

  private static void endsOfABridge() {
    check.sentence("a BRIDGE between ISLANDS A and B (unlike)");
    ends("b", ",1;");
    faultOf("b0,99,1;", 0);
    faultOf("b99,0,1;", 0);
  }

  private static void penceOfABridge() {
    check.sentence("P pence (0 to 99) were put on each day ahead of day 0");
    for (int p = 0; p <= MOST_FIGURES; p++) {
      PennyPlanks x = Check.laid("i2;d9;b0,1," + p + ";");
      check.due("pence " + p, x.bridge(0, 2), p);
      check.due("planks of " + p, x.bridge(0, 5), p);
      check.due("planks of " + p + " on day 8", x.planks(8, 0), p);
      check.due("planks of " + p + " on day 9", x.planks(9, 0), 0);
    }
    faultOf("b0,1,100;", 0);
  }

  private static void nineBridges() {
    check.sentence("9 at most, 0, 1, .. (BRIDGES)");
    StringBuilder text = new StringBuilder("i2;");
    for (int b = 0; b < 9; b++) {
      text.append("b0,1,").append(10 + b).append(";");
      PennyPlanks x = Check.laid(text.toString());
      check.due("bridges", x.count(1), b + 1);
      check.due("last bridge", x.bridge(b, 2), 10 + b);
      check.due("first bridge", x.bridge(0, 2), 10);
      check.due("one more", x.bridge(b + 1, 2), BAD);
    }
    faultOf(text + "b0,1,1;", text.length());
    check.due("lay of 10", Check.written(text + "b0,1,1;").lay(), NO);
  }

  private static void oakToldAhead() {
    check.sentence("oB BRIDGE B (told ahead) has a plank of OAK");
    String text = "";
    for (int told = 0; told <= 9; told++) {
      for (int b = 0; b <= 10; b++) faultIf(b >= told, text + "o" + b + ";", text.length());
      text += "b0,1,1;";
    }
    faultOf("b0,1,1;o1;b0,1,1;", 7);
    PennyPlanks x = Check.laid("b0,1,1;".repeat(9) + "o8;");
    check.due("the last one has", x.bridge(8, 3), 1);
    check.due("its planks", x.bridge(8, 5), 6);
    check.due("the one ahead has not", x.bridge(7, 3), 0);
    check.due("the first one has not", x.bridge(0, 5), 1);
  }

  private static void oakAgain() {
    check.sentence("(the same again as well)");
    PennyPlanks x = Check.laid("b0,1,1;o0;o0;b0,1,1;o0;");
    check.due("oak", x.bridge(0, 3), 1);
    check.due("planks", x.bridge(0, 5), 6);
    check.due("shows", x.bridge(0, 6), 6);
    check.due("no oak", x.bridge(1, 3), 0);
  }

  private static void endsOfAGoer() {
    check.sentence("a GOER on ISLAND A, bound for B (unlike)");
    ends("g", ",1,1,1;");
  }

  private static void numbersOfAGoer() {
    check.sentence("of WEIGHT W (1 to 40), who gives G pence (0 to 20), of KIND K");
    for (int v = 0; v <= MOST_FIGURES; v++) {
      faultIf(v < 1 || v > 40, "g0,1," + v + ",1,1;", 0);
      faultIf(v > 20, "g0,1,1," + v + ",1;", 0);
      faultIf(v > 4, "g0,1,1,1," + v + ";", 0);
    }
    PennyPlanks x = Check.laid("b0,1,1;g0,3,1,0,0;g3,0,40,20,4;");
    int[][] due = {{0, 3, 1, 0, 0, 1}, {3, 0, 40, 20, 4, 40}};
    for (int i = 0; i < 2; i++) {
      for (int what = 0; what < 6; what++) {
        check.due("goer " + i + " " + what, x.goer(i, what), due[i][what]);
      }
    }
  }

  private static void fiveGoers() {
    check.sentence("5 at most, 0, 1, .. (GOERS)");
    StringBuilder text = new StringBuilder("b0,1,1;");
    check.due("no goer", Check.laid(text.toString()).goer(0, 2), BAD);
    for (int i = 0; i < 5; i++) {
      text.append("g0,1,").append(10 + i).append(",1,1;");
      PennyPlanks x = Check.laid(text.toString());
      check.due("goers", x.count(2), i + 1);
      check.due("last goer", x.goer(i, 2), 10 + i);
      check.due("first goer", x.goer(0, 2), 10);
      check.due("one more", x.goer(i + 1, 2), BAD);
    }
    faultOf(text + "g0,1,1,1,1;", text.length());
    check.due("lay of 6", Check.written(text + "g0,1,1,1,1;").lay(), NO);
  }

  private static void firstFault() {
    check.sentence("the place of the first letter of the first ITEM that is not so");
    faultOf("", NONE);
    faultOf("d0;b1,1,1;", 0);
    faultOf("d1;b1,1,1;d0;", 3);
    faultOf("d1;b1,2,1;d0;", 10);
    faultOf("d1;b1,2,1;d2;o1", 13);
    // The last letter alone is an item that is not ended.
    faultOf("d1;d", 3);
    PennyPlanks x = Check.written("d1;d");
    check.due("mended", x.write('2'), 5);
    check.due("not yet", x.fault(), 3);
    x.write(';');
    check.due("now", x.fault(), NONE);
  }

  private static void aBridgeAtLeast() {
    check.sentence("LAID is a TEXT without FAULT, of a BRIDGE at least (NO else");
    String[] refused = {"", "i5;", "d1;", "i5;d1;g0,1,1,1,1;", "b0,1,1;d", "b0,1,1;d0;"};
    for (String text : refused) {
      check.due("lay of " + text, Check.written(text).lay(), NO);
    }
    check.due("lay of one", Check.written("b0,1,0;").lay(), 4);
    check.due("lay of one behind goers", Check.written("g0,1,1,1,1;b0,1,0;").lay(), 4);
  }

  private static void laidAtFirst() {
    check.sentence("at first " + FIRST);
    PennyPlanks x = new PennyPlanks();
    check.due("letters", x.count(9), 0);
    check.due("fault", x.fault(), NONE);
    check.due("lay of no text", x.lay(), NO);
    check.same("new object", Portrait.ofDelta(x), Portrait.ofDelta(Check.laid(FIRST)));
  }

  private static void wiped() {
    check.sentence("THE TEXT is empty: how long it was");
    PennyPlanks x = new PennyPlanks();
    check.due("wipe of none", x.wipe(), 0);
    x.write('b');
    check.due("wipe of one", x.wipe(), 1);
    check.due("fault of none", x.fault(), NONE);
    Check.write(x, twoHundred());
    check.due("wipe of 200", x.wipe(), 200);
    check.due("lay of none", x.lay(), NO);
    check.same("what was laid stays", Portrait.of(x), Portrait.of(new PennyPlanks()));
  }

  private static void laidAnew() {
    check.sentence("day 0, nothing GUARDED, no LEDGER, nothing UNDONE, KEPT");
    String text = "i2;d9;b0,1,50;b0,1,9;g0,1,1,5,0;g1,0,1,3,3;";
    PennyPlanks x = Check.laid(text);
    // The thief steals on each of the days that a delay of 9 looks back upon.
    for (int k = 0; k < 9; k++) x.days(1);
    check.due("stolen", x.bridge(0, 6) - x.bridge(0, 5), 3);
    x.put(0, 9);
    x.guard(1, true);
    x.enter(0, 1, 9, true);
    x.keep();
    x.keep();
    check.due("lay", x.lay(), 2);
    check.same("laid again", Portrait.of(x), Portrait.of(Check.laid(text)));
  }
}
