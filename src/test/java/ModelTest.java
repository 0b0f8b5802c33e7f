import java.util.ArrayList;
import java.util.Arrays;
import java.util.List;
import java.util.Random;

/** Drawn runs of calls, each answered by the class and by the model. */
public final class ModelTest {
  private static final String[] NAMES = {
    "write", "wipe", "fault", "lay", "bridge", "goer", "days", "put", "guard", "undo", "where",
    "planks", "all", "abbot", "oak", "delays", "watch", "sent", "rumour", "enter", "close",
    "span", "cart", "year", "keep", "back", "count"
  };
  private static final int RUNS = 150, CALLS = 300;

  private final Random random;
  private final List<String> calls = new ArrayList<>();
  private PennyPlanks mine = new PennyPlanks();
  private Model model = new Model();

  private ModelTest(long seed) {
    random = new Random(seed);
  }

  public static void main(String[] args) {
    int runs = args.length > 0 ? Integer.parseInt(args[0]) : RUNS;
    long first = args.length > 1 ? Long.parseLong(args[1]) : 1;
    for (long seed = first; seed < first + runs; seed++) {
      String fault = new ModelTest(seed).run();
      if (fault == null) continue;
      System.out.println("ModelTest: run " + seed + ": " + fault);
      System.exit(1);
    }
    System.out.println(runs + " runs as the model has them");
  }

  private String run() {
    String fault = null;
    for (int call = 0; call < CALLS && fault == null; call++) {
      if (call % 90 == 0) fault = layAnew();
      else fault = compare(drawName(), drawNumbers());
    }
    return fault == null ? null : fault + "\n  " + String.join("\n  ", calls);
  }

  private String layAnew() {
    mine = new PennyPlanks();
    model = new Model();
    calls.clear();
    String text = drawText();
    calls.add(text);
    String fault = null;
    for (int i = 0; i < text.length() && fault == null; i++) {
      fault = compare("write", new int[] {text.charAt(i), 0, 0, 0});
    }
    if (fault == null) fault = compare("fault", new int[4]);
    if (fault == null) fault = compare("lay", new int[4]);
    return fault;
  }

  private String drawName() {
    // Days go by more often than other things are done, so that runs come somewhere.
    int draw = random.nextInt(NAMES.length + 5);
    if (draw >= NAMES.length) return draw % 2 == 0 ? "days" : "put";
    return NAMES[draw].equals("lay") && random.nextInt(5) > 0 ? "guard" : NAMES[draw];
  }

  private int[] drawNumbers() {
    int[] numbers = new int[4];
    for (int k = 0; k < 4; k++) {
      int size = random.nextInt(10);
      if (size < 5) numbers[k] = random.nextInt(4);
      else if (size < 8) numbers[k] = random.nextInt(12) - 1;
      else if (size < 9) numbers[k] = random.nextInt(130) - 10;
      else numbers[k] = random.nextInt(12000) - 1000;
    }
    return numbers;
  }

  private String drawText() {
    int islands = 2 + random.nextInt(7);
    StringBuilder text = new StringBuilder();
    if (random.nextInt(4) > 0) text.append("i").append(islands).append(";");
    else islands = 4;
    if (random.nextInt(4) > 0) text.append("d").append(1 + random.nextInt(9)).append(";");
    int bridges = random.nextInt(20) == 0 ? 10 : 1 + random.nextInt(9);
    int rich = 1 + random.nextInt(random.nextInt(4) == 0 ? 99 : 15);
    for (int b = 0; b < bridges; b++) {
      int a = random.nextInt(islands);
      text.append("b").append(a).append(",").append(other(a, islands)).append(",");
      text.append(random.nextInt(rich + 1)).append(";");
      if (random.nextInt(4) == 0) text.append("o").append(random.nextInt(b + 1)).append(";");
    }
    int goers = random.nextInt(30) == 0 ? 6 : random.nextInt(6);
    for (int i = 0; i < goers; i++) {
      int a = random.nextInt(islands);
      text.append("g").append(a).append(",").append(other(a, islands)).append(",");
      text.append(1 + random.nextInt(Math.min(rich, 40))).append(",");
      text.append(random.nextInt(21)).append(",").append(random.nextInt(5)).append(";");
    }
    if (random.nextInt(4) == 0) spoil(text);
    return text.toString();
  }

  private int other(int a, int islands) {
    return (a + 1 + random.nextInt(islands - 1)) % islands;
  }

  private void spoil(StringBuilder text) {
    int at = random.nextInt(text.length());
    char letter = "0123456789,;idbog xI".charAt(random.nextInt(20));
    if (random.nextBoolean()) text.setCharAt(at, letter);
    else text.insert(at, letter);
  }

  private String compare(String name, int[] v) {
    int got = ask(name, v, true);
    int want = ask(name, v, false);
    calls.add(name + Arrays.toString(v) + " " + got);
    return got == want ? null : name + Arrays.toString(v) + " " + got + ", due is " + want;
  }

  private int ask(String name, int[] v, boolean ofMine) {
    PennyPlanks x = mine;
    Model m = model;
    boolean on = v[3] % 2 == 0;
    switch (name) {
      case "write": return ofMine ? x.write(v[0]) : m.write(v[0]);
      case "wipe": return ofMine ? x.wipe() : m.wipe();
      case "fault": return ofMine ? x.fault() : m.fault();
      case "lay": return ofMine ? x.lay() : m.lay();
      case "bridge": return ofMine ? x.bridge(v[0], v[1]) : m.bridge(v[0], v[1]);
      case "goer": return ofMine ? x.goer(v[0], v[1]) : m.goer(v[0], v[1]);
      case "days": return ofMine ? x.days(v[0]) : m.days(v[0]);
      case "put": return ofMine ? x.put(v[0], v[1]) : m.put(v[0], v[1]);
      case "guard": return ofMine ? x.guard(v[0], on) : m.guard(v[0], on);
      case "undo": return ofMine ? x.undo() : m.undo();
      case "where": return ofMine ? x.where(v[0], v[1]) : m.where(v[0], v[1]);
      case "planks": return ofMine ? x.planks(v[0], v[1]) : m.planks(v[0], v[1]);
      case "all": return ofMine ? x.all(v[0], v[1]) : m.all(v[0], v[1]);
      case "abbot": return ofMine ? x.abbot(v[0]) : m.abbot(v[0]);
      default: return askMore(name, v, ofMine);
    }
  }

  private int askMore(String name, int[] v, boolean ofMine) {
    PennyPlanks x = mine;
    Model m = model;
    boolean on = v[3] % 2 == 0;
    int a = v[0], b = v[1], c = v[2], d = v[3];
    switch (name) {
      case "oak": return ofMine ? x.oak(a) : m.oak(a);
      case "delays": return ofMine ? x.delays(a) : m.delays(a);
      case "watch": return ofMine ? x.watch(a) : m.watch(a);
      case "sent": return ofMine ? x.sent(a, b, c, d) : m.sent(a, b, c, d);
      case "rumour": return ofMine ? x.rumour(a, b, c, d) : m.rumour(a, b, c, d);
      case "enter": return ofMine ? x.enter(a, b, c, on) : m.enter(a, b, c, on);
      case "close": return ofMine ? x.close() : m.close();
      case "span": return ofMine ? x.span(a, b, c) : m.span(a, b, c);
      case "cart": return ofMine ? x.cart(a, b, c) : m.cart(a, b, c);
      case "year": return ofMine ? x.year(a, b, c) : m.year(a, b, c);
      case "keep": return ofMine ? x.keep() : m.keep();
      case "back": return ofMine ? x.back() : m.back();
      case "count": return ofMine ? x.count(a) : m.count(a);
      default: throw new IllegalStateException(name);
    }
  }
}
