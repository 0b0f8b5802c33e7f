import java.util.ArrayList;
import java.util.List;

/**
 * "BAD: a number is none that is told. NO: not as things stand. NONE: there is none. FULL. Of
 * several the first; nothing changes then." Each call that is refused, on objects in several
 * states, and a portrait of the object behind it.
 */
public final class RefusedTest {
  private static final Check check = new Check("RefusedTest");
  private static final int BAD = PennyPlanks.BAD, NO = PennyPlanks.NO;
  private static final int FULL = PennyPlanks.FULL, NONE = PennyPlanks.NONE;

  /** A way to make an object in a state, always the same. */
  private interface Maker {
    PennyPlanks make();
  }

  private interface Call {
    int ask(PennyPlanks x, int[] v);
  }

  /** A call, and the least and the most that each of its numbers may be. */
  private static final class Asked {
    final String name;
    final Call call;
    final int[] ends;

    Asked(String name, Call call, int... ends) {
      this.name = name;
      this.call = call;
      this.ends = ends;
    }
  }

  public static void main(String[] args) {
    fullIsFull();
    refusedOn("new", PennyPlanks::new);
    refusedOn("busy", RefusedTest::busy);
    refusedOn("full", RefusedTest::full);
    refusedOn("fallen", RefusedTest::fallen);
    noOnes();
    noneOnes();
    fullOnes();
    badAheadOfOthers();
    noGoersNoGoer();
    looksChangeNothing();
    check.end();
  }

  /** In the midst of things: something of all that there can be, and a text that is not laid. */
  private static PennyPlanks busy() {
    PennyPlanks x = Check.laid("i4;d2;b0,1,9;b1,2,6;o1;g0,2,3,4,0;g2,0,2,3,3;");
    x.put(0, 5);
    x.days(2);
    x.guard(1, true);
    x.keep();
    x.enter(0, 0, 5, true);
    x.enter(1, 2, 9, false);
    x.days(1);
    x.put(1, 7);
    x.wipe();
    Check.write(x, "b0,1");
    return x;
  }

  /** Nothing more can be written, entered, kept, put into box 0, and no day can go by. */
  private static PennyPlanks full() {
    PennyPlanks x = Check.laid("i3;d2;b0,1,9;b1,2,6;g0,2,3,4,4;g2,0,2,3,3;");
    // The last item lacks the letter that is one too many.
    Check.write(x, "d2;".repeat(53).substring(0, 200 - 42));
    for (int k = 0; k < 8; k++) x.enter(k % 2, k % 3, 10 + k, k < 4);
    x.days(59);
    x.keep();
    x.days(38);
    x.keep();
    x.guard(1, true);
    x.put(1, 3);
    x.days(1);
    x.guard(1, false);
    x.days(1);
    x.put(0, 98);
    x.put(0, 1);
    return x;
  }

  private static void fullIsFull() {
    PennyPlanks x = full();
    int[] due = {3, 2, 2, 2, 99, 0, 8, 8, 2, 200};
    for (int what = 0; what < due.length; what++) {
      check.due("full, count " + what, x.count(what), due[what]);
    }
    check.due("full box", x.bridge(0, 7), 99);
    check.due("fault of full", x.fault(), 198);
  }

  /** All have fallen. */
  private static PennyPlanks fallen() {
    PennyPlanks x = Check.laid("i2;d1;b0,1,40;g0,1,9,5,4;g0,1,6,20,3;");
    x.put(0, 20);
    x.days(2);
    return x;
  }

  private static List<Asked> allAsked(int islands, int bridges, int goers) {
    int a = islands - 1;
    int b = bridges - 1;
    int g = goers - 1;
    List<Asked> all = new ArrayList<>();
    all.add(new Asked("write", (x, v) -> x.write(v[0]), 32, 126));
    all.add(new Asked("bridge", (x, v) -> x.bridge(v[0], v[1]), 0, b, 0, 7));
    all.add(new Asked("goer", (x, v) -> x.goer(v[0], v[1]), 0, g, 0, 6));
    all.add(new Asked("days", (x, v) -> x.days(v[0]), 1, 60));
    all.add(new Asked("put", (x, v) -> x.put(v[0], v[1]), 0, b, 1, 99));
    all.add(new Asked("guard", (x, v) -> x.guard(v[0], true), 0, b));
    all.add(new Asked("guard no more", (x, v) -> x.guard(v[0], false), 0, b));
    all.add(new Asked("where", (x, v) -> x.where(v[0], v[1]), 0, 60, 0, g));
    all.add(new Asked("planks", (x, v) -> x.planks(v[0], v[1]), 0, 60, 0, b));
    all.add(new Asked("all", (x, v) -> x.all(v[0], v[1]), 0, 60, 0, 3));
    all.add(new Asked("abbot", (x, v) -> x.abbot(v[0]), 1, 60));
    all.add(new Asked("oak", (x, v) -> x.oak(v[0]), 1, 60));
    all.add(new Asked("delays", (x, v) -> x.delays(v[0]), 1, 60));
    all.add(new Asked("watch", (x, v) -> x.watch(v[0]), 1, 60));
    all.add(new Asked("sent", (x, v) -> x.sent(v[0], v[1], v[2], v[3]), 0, a, 0, a, 1, 40, 0, 1));
    all.add(new Asked("rumour", (x, v) -> x.rumour(v[0], v[1], v[2], v[3]),
        0, g, 0, b, 0, 60, 0, 1));
    all.add(new Asked("bore", (x, v) -> x.enter(v[0], v[1], v[2], true), 0, b, 0, 99, 1, 80));
    all.add(new Asked("bore not", (x, v) -> x.enter(v[0], v[1], v[2], false), 0, b, 0, 99, 1, 80));
    all.add(new Asked("span", (x, v) -> x.span(v[0], v[1], v[2]), 0, b, 0, 99, 0, 1));
    all.add(new Asked("year", (x, v) -> x.year(v[0], v[1], v[2]), 0, 9999, 1, 60, 0, 1));
    all.add(new Asked("count", (x, v) -> x.count(v[0]), 0, 9));
    // Bridges alike are bad as well, so that each of the two is asked for beside another one.
    if (b > 0) {
      all.add(new Asked("cart on", (x, v) -> x.cart(v[0], b, v[1]), 0, b - 1, 0, 1));
      all.add(new Asked("cart off", (x, v) -> x.cart(0, v[0], v[1]), 1, b, 0, 1));
    }
    return all;
  }

  private static void refusedOn(String state, Maker maker) {
    PennyPlanks seen = maker.make();
    List<Asked> all = allAsked(seen.count(0), seen.count(1), seen.count(2));
    String portrait = Portrait.of(maker.make());
    for (Asked asked : all) {
      for (int k = 0; k < asked.ends.length / 2; k++) {
        atItsEnds(state, maker, asked, k);
        for (int bad : behindItsEnds(asked, k)) {
          refused(state + " " + asked.name, maker, asked, with(asked, k, bad), portrait);
        }
      }
      int[] noneIsGood = new int[asked.ends.length / 2];
      for (int k = 0; k < noneIsGood.length; k++) noneIsGood[k] = -1;
      refused(state + " " + asked.name, maker, asked, noneIsGood, portrait);
    }
  }

  /** The least of all numbers, but of one of them. */
  private static int[] with(Asked asked, int k, int number) {
    int[] v = new int[asked.ends.length / 2];
    for (int j = 0; j < v.length; j++) v[j] = asked.ends[2 * j];
    v[k] = number;
    return v;
  }

  /** Beside the least and the most, far from them, and such as are good when bits are cut off. */
  private static int[] behindItsEnds(Asked asked, int k) {
    int least = asked.ends[2 * k];
    int most = asked.ends[2 * k + 1];
    return new int[] {least - 1, most + 1, -most - 1, Integer.MIN_VALUE, Integer.MAX_VALUE,
      least + 65536, least + 10000, Integer.MIN_VALUE + least};
  }

  private static void atItsEnds(String state, Maker maker, Asked asked, int k) {
    for (int side = 0; side < 2; side++) {
      int[] v = with(asked, k, asked.ends[2 * k + side]);
      int answer = asked.call.ask(maker.make(), v);
      check.isSo(told(state + " " + asked.name, v) + " is not bad", answer != BAD);
    }
  }

  private static void refused(String name, Maker maker, Asked asked, int[] v, String portrait) {
    PennyPlanks x = maker.make();
    check.due(told(name, v), asked.call.ask(x, v), BAD);
    check.same("portrait behind " + told(name, v), Portrait.of(x), portrait);
  }

  private static String told(String name, int[] v) {
    StringBuilder text = new StringBuilder(name);
    for (int number : v) text.append(' ').append(number);
    return text.toString();
  }

  private static void refuses(String name, Maker maker, Call call, int due) {
    PennyPlanks x = maker.make();
    check.due(name, call.ask(x, new int[0]), due);
    check.same("portrait behind " + name, Portrait.of(x), Portrait.of(maker.make()));
  }

  private static void noOnes() {
    check.sentence("NO: not as things stand .. nothing changes then");
    refuses("days above 99", RefusedTest::full, (x, v) -> x.days(1), NO);
    refuses("60 days above 99", RefusedTest::full, (x, v) -> x.days(60), NO);
    refuses("put above 99", RefusedTest::full, (x, v) -> x.put(0, 1), NO);
    refuses("put 99 above 99", RefusedTest::full, (x, v) -> x.put(0, 99), NO);
    refuses("put 93 beside 7", RefusedTest::busy, (x, v) -> x.put(1, 93), NO);
    refuses("undo at first", PennyPlanks::new, (x, v) -> x.undo(), NO);
    refuses("back at first", PennyPlanks::new, (x, v) -> x.back(), NO);
    refuses("back without kept ones", RefusedTest::fallen, (x, v) -> x.back(), NO);
    refuses("lay of no text", PennyPlanks::new, (x, v) -> x.lay(), NO);
    refuses("lay with a fault", RefusedTest::busy, (x, v) -> x.lay(), NO);
    refuses("lay with a fault at the end", RefusedTest::full, (x, v) -> x.lay(), NO);
    refuses("lay without bridges", RefusedTest::withoutBridges, (x, v) -> x.lay(), NO);
    refuses("lay with a tenth bridge", RefusedTest::withTenBridges, (x, v) -> x.lay(), NO);
  }

  private static void noneOnes() {
    check.sentence("NONE: there is none .. nothing changes then");
    refuses("fault", RefusedTest::fallen, (x, v) -> x.fault(), NONE);
    refuses("goer", RefusedTest::fallen, (x, v) -> x.goer(0, 0), NONE);
    refuses("the bridge of a goer", RefusedTest::fallen, (x, v) -> x.goer(1, 6), NONE);
    refuses("where", RefusedTest::fallen, (x, v) -> x.where(60, 1), NONE);
    refuses("abbot", RefusedTest::tooHeavy, (x, v) -> x.abbot(60), NONE);
    refuses("oak", RefusedTest::tooHeavy, (x, v) -> x.oak(60), NONE);
    refuses("sent", RefusedTest::tooHeavy, (x, v) -> x.sent(0, 2, 1, 0), NONE);
    refuses("bridges of sent", RefusedTest::tooHeavy, (x, v) -> x.sent(2, 1, 1, 1), NONE);
    refuses("span", RefusedTest::tooHeavy, (x, v) -> x.span(0, 0, 0), NONE);
    refuses("most of span", RefusedTest::tooHeavy, (x, v) -> x.span(0, 0, 1), NONE);
    refuses("cart", RefusedTest::tooHeavy, (x, v) -> x.cart(0, 1, 1), NONE);
  }

  /** No bridge can bear the goer, be of oak or lead to 2, and the ledger is against itself. */
  private static PennyPlanks tooHeavy() {
    PennyPlanks x = Check.laid("i3;d3;b0,1,9;o0;b1,0,0;o1;g0,1,40,20,1;");
    x.put(1, 30);
    x.days(1);
    x.enter(0, 0, 7, true);
    x.enter(0, 0, 7, false);
    return x;
  }

  private static PennyPlanks withoutBridges() {
    PennyPlanks x = fallen();
    x.wipe();
    Check.write(x, "i8;d9;g0,7,1,1,1;");
    return x;
  }

  private static PennyPlanks withTenBridges() {
    PennyPlanks x = fallen();
    x.wipe();
    Check.write(x, "i8;d9;o0;" + "b0,7,9;".repeat(10));
    return x;
  }

  private static void fullOnes() {
    check.sentence("FULL .. nothing changes then");
    refuses("write", RefusedTest::full, (x, v) -> x.write('d'), FULL);
    refuses("write ;", RefusedTest::full, (x, v) -> x.write(';'), FULL);
    refuses("enter", RefusedTest::full, (x, v) -> x.enter(0, 0, 80, true), FULL);
    refuses("enter the least", RefusedTest::full, (x, v) -> x.enter(1, 1, 1, false), FULL);
    refuses("keep", RefusedTest::full, (x, v) -> x.keep(), FULL);
  }

  private static void badAheadOfOthers() {
    check.sentence("Of several the first");
    refuses("write 31 of full", RefusedTest::full, (x, v) -> x.write(31), BAD);
    refuses("write 127 of full", RefusedTest::full, (x, v) -> x.write(127), BAD);
    refuses("days 0 on day 99", RefusedTest::full, (x, v) -> x.days(0), BAD);
    refuses("days 61 on day 99", RefusedTest::full, (x, v) -> x.days(61), BAD);
    refuses("put 100 above 99", RefusedTest::full, (x, v) -> x.put(0, 100), BAD);
    refuses("put 0 of full", RefusedTest::full, (x, v) -> x.put(0, 0), BAD);
    refuses("put into no box", RefusedTest::full, (x, v) -> x.put(2, 99), BAD);
    refuses("enter w 81 of full", RefusedTest::full, (x, v) -> x.enter(0, 0, 81, true), BAD);
    refuses("enter t 100 of full", RefusedTest::full, (x, v) -> x.enter(0, 100, 80, true), BAD);
    refuses("enter no bridge of full", RefusedTest::full, (x, v) -> x.enter(2, 0, 80, true), BAD);
    refuses("where of none, fallen", RefusedTest::fallen, (x, v) -> x.where(61, 0), BAD);
    refuses("goer of none, fallen", RefusedTest::fallen, (x, v) -> x.goer(0, 7), BAD);
    refuses("no way, w 41", RefusedTest::busy, (x, v) -> x.sent(0, 3, 41, 0), BAD);
    refuses("carts alike", RefusedTest::busy, (x, v) -> x.cart(1, 1, 1), BAD);
    refuses("carts alike, what 2", RefusedTest::busy, (x, v) -> x.cart(1, 1, 2), BAD);
  }

  private static void noGoersNoGoer() {
    check.sentence("(ISLANDS, BRIDGES, GOERS: such as there are)");
    Maker one = () -> Check.laid("i2;b0,1,9;");
    refuses("goer 0 of none", one, (x, v) -> x.goer(0, 2), BAD);
    refuses("where 0 of none", one, (x, v) -> x.where(0, 0), BAD);
    refuses("rumour of none", one, (x, v) -> x.rumour(0, 0, 0, 0), BAD);
    refuses("cart of one bridge", one, (x, v) -> x.cart(0, 1, 0), BAD);
    refuses("cart of one bridge alike", one, (x, v) -> x.cart(0, 0, 0), BAD);
    refuses("sent to 2 of 2", one, (x, v) -> x.sent(0, 2, 1, 0), BAD);
    // There were more of them ahead of this delta, and there are such in the text.
    Maker fewer = () -> {
      PennyPlanks x = Check.laid("i8;d1;" + "b0,7,9;".repeat(9) + "g0,7,1,1,1;".repeat(5));
      x.wipe();
      Check.write(x, "i2;b0,1,9;g0,1,1,1,1;");
      x.lay();
      Check.write(x, "b0,1,9;g0,1,1,1,1;");
      return x;
    };
    refuses("bridge 1 of 1", fewer, (x, v) -> x.bridge(1, 0), BAD);
    refuses("bridge 8 of 1", fewer, (x, v) -> x.bridge(8, 0), BAD);
    refuses("goer 1 of 1", fewer, (x, v) -> x.goer(1, 0), BAD);
    refuses("goer 4 of 1", fewer, (x, v) -> x.goer(4, 0), BAD);
    refuses("put into box 1 of 1", fewer, (x, v) -> x.put(1, 1), BAD);
    refuses("guard 1 of 1", fewer, (x, v) -> x.guard(1, true), BAD);
    refuses("sent to 7 of 2", fewer, (x, v) -> x.sent(0, 7, 1, 0), BAD);
    refuses("enter 8 of 1", fewer, (x, v) -> x.enter(8, 0, 1, true), BAD);
    refuses("rumour of 8 of 1", fewer, (x, v) -> x.rumour(0, 8, 1, 1), BAD);
  }

  private static void looksChangeNothing() {
    check.sentence("All from now on, nothing else being done");
    Maker[] makers = {PennyPlanks::new, RefusedTest::busy, RefusedTest::full, RefusedTest::fallen};
    for (Maker maker : makers) {
      refuses("all looks", maker, (x, v) -> {
        x.fault();
        x.where(60, 0);
        x.planks(60, 0);
        x.all(60, 2);
        x.abbot(60);
        x.oak(60);
        x.delays(60);
        x.watch(60);
        x.sent(0, 1, 40, 0);
        x.rumour(0, 0, 60, 0);
        x.span(0, 0, 0);
        x.year(9999, 60, 0);
        return x.count(0) > 0 ? 1 : 0;
      }, 1);
    }
  }
}
