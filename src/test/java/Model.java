import java.util.ArrayDeque;
import java.util.ArrayList;
import java.util.Deque;
import java.util.HashMap;
import java.util.HashSet;
import java.util.List;
import java.util.Map;
import java.util.Set;
import java.util.TreeSet;
import java.util.regex.Matcher;
import java.util.regex.Pattern;

/**
 * The document once more, told another way: whole histories in maps, ways walked one by one, and
 * what would be on copies of the whole world. ModelTest holds the class against it.
 */
final class Model {
  static final int BAD = -1, NO = -2, FULL = -3, NONE = -4;
  private static final Pattern ITEM = Pattern.compile("(.)(\\d\\d?(?:,\\d\\d?)*);");

  /** A goer as told, and where he is. */
  static final class Goer {
    int from, to, weight, gift, kind;
    int place, bound;
    boolean fallen;

    int need() {
      return kind == 1 ? weight * 2 : weight;
    }

    Goer twin() {
      Goer g = new Goer();
      g.from = from;
      g.to = to;
      g.weight = weight;
      g.gift = gift;
      g.kind = kind;
      g.place = place;
      g.bound = bound;
      g.fallen = fallen;
      return g;
    }
  }

  /** A world of islands that can be copied and tried out. */
  static final class World {
    int islands = 4, delay = 7, day = 0;
    List<int[]> bridges = new ArrayList<>();
    Set<Integer> oaks = new HashSet<>();
    Set<Integer> guards = new TreeSet<>();
    List<Goer> goers = new ArrayList<>();
    Map<String, Integer> put = new HashMap<>();
    Map<String, Integer> stolen = new HashMap<>();
    Set<Integer> heard = new TreeSet<>();
    int weak = -1;
    int waits, falls, given, taken;

    World twin() {
      World w = new World();
      w.islands = islands;
      w.delay = delay;
      w.day = day;
      w.bridges = bridges;
      w.oaks = new HashSet<>(oaks);
      w.guards = new TreeSet<>(guards);
      for (Goer g : goers) w.goers.add(g.twin());
      w.put = new HashMap<>(put);
      w.stolen = new HashMap<>(stolen);
      return w;
    }

    int putOn(int b, int t) {
      return t < 0 ? bridges.get(b)[2] : put.getOrDefault(b + "/" + t, 0);
    }

    int stolenOn(int b, int t) {
      return stolen.getOrDefault(b + "/" + t, 0);
    }

    int planks(int b, int t) {
      return putOn(b, t - delay) - stolenOn(b, t - delay) + (oaks.contains(b) ? 5 : 0);
    }

    int shows(int b, int t) {
      return planks(b, t) + stolenOn(b, t - delay);
    }

    void drop(int b, int pence) {
      put.merge(b + "/" + day, pence, Integer::sum);
    }

    int way(int i) {
      Goer g = goers.get(i);
      if (g.fallen) return NONE;
      boolean[] been = new boolean[islands];
      int best = NONE;
      int fewest = Integer.MAX_VALUE;
      been[g.place] = true;
      for (int b = 0; b < bridges.size(); b++) {
        int next = across(b, g.place);
        if (next < 0 || !goes(i, b)) continue;
        int far = 1 + shortest(i, next, g.bound, been);
        if (far < fewest) {
          fewest = far;
          best = b;
        }
      }
      return fewest > 100 ? NONE : best;
    }

    private int shortest(int i, int at, int goal, boolean[] been) {
      if (at == goal) return 0;
      if (been[at]) return 1000;
      been[at] = true;
      int least = 1000;
      for (int b = 0; b < bridges.size(); b++) {
        int next = across(b, at);
        if (next >= 0 && goes(i, b)) least = Math.min(least, 1 + shortest(i, next, goal, been));
      }
      been[at] = false;
      return least;
    }

    private boolean goes(int i, int b) {
      if (b == weak && heard.contains(i)) return false;
      return shows(b, day) >= goers.get(i).need();
    }

    int across(int b, int at) {
      int[] bridge = bridges.get(b);
      return bridge[0] == at ? bridge[1] : bridge[1] == at ? bridge[0] : -1;
    }

    void live(int alms) {
      for (int b = 0; b < bridges.size(); b++) drop(b, alms);
      for (int i = 0; i < goers.size(); i++) if (!goers.get(i).fallen) step(i);
      Set<Integer> islandsTold = new HashSet<>();
      for (int i : heard) if (!goers.get(i).fallen) islandsTold.add(goers.get(i).place);
      for (int i = 0; i < goers.size(); i++) {
        if (!goers.get(i).fallen && islandsTold.contains(goers.get(i).place)) heard.add(i);
      }
      day++;
    }

    private void step(int i) {
      Goer g = goers.get(i);
      int b = way(i);
      if (b == NONE) {
        waits++;
        if (g.kind == 4) giveBeside(g);
        return;
      }
      if (planks(b, day) < g.need()) {
        g.fallen = true;
        falls++;
        return;
      }
      g.place = across(b, g.place);
      if (g.kind == 3) steal(b, g.gift);
      else if (g.kind != 2 || day % 2 == 0) give(b, g.gift);
      if (g.place == g.bound) g.bound = g.from + g.to - g.bound;
    }

    private void giveBeside(Goer g) {
      for (int b = 0; b < bridges.size(); b++) {
        if (across(b, g.place) >= 0) {
          give(b, g.gift);
          return;
        }
      }
    }

    private void give(int b, int pence) {
      drop(b, pence);
      given += pence;
    }

    private void steal(int b, int pence) {
      if (guards.contains(b)) return;
      int loot = Math.min(pence, putOn(b, day) - stolenOn(b, day));
      stolen.merge(b + "/" + day, loot, Integer::sum);
      taken += loot;
    }

    World behind(int n) {
      World w = twin();
      for (int k = 0; k < n; k++) w.live(0);
      return w;
    }
  }

  private String text = "i3;b0,1,4;b1,2,5;b0,2,2;g0,2,3,2,0;g2,0,2,1,2;";
  private World world;
  private World parsed;
  private final Deque<World> undos = new ArrayDeque<>();
  private final Deque<World> keeps = new ArrayDeque<>();
  private final List<int[]> ledger = new ArrayList<>();

  Model() {
    lay();
    text = "";
  }

  int write(int letter) {
    if (letter < 32 || letter > 126) return BAD;
    if (text.length() == 200) return FULL;
    text += (char) letter;
    return text.length();
  }

  int wipe() {
    int was = text.length();
    text = "";
    return was;
  }

  int fault() {
    parsed = new World();
    Matcher matcher = ITEM.matcher(text);
    String before = "";
    int at = 0;
    while (at < text.length()) {
      matcher.region(at, text.length());
      if (!matcher.lookingAt()) return at;
      String[] figures = matcher.group(2).split(",");
      int[] v = new int[figures.length];
      for (int k = 0; k < v.length; k++) v[k] = Integer.parseInt(figures[k]);
      if (!suits(matcher.group(1).charAt(0), v, before)) return at;
      before += matcher.group(1);
      at = matcher.end();
    }
    return NONE;
  }

  private boolean suits(char letter, int[] v, String before) {
    World w = parsed;
    if (letter == 'i') {
      if (v.length != 1 || v[0] < 2 || v[0] > 8 || !before.matches("i*")) return false;
      w.islands = v[0];
    } else if (letter == 'd') {
      if (v.length != 1 || v[0] < 1 || v[0] > 9) return false;
      w.delay = v[0];
    } else if (letter == 'b') {
      if (v.length != 3 || w.bridges.size() == 9) return false;
      if (v[0] >= w.islands || v[1] >= w.islands || v[0] == v[1]) return false;
      w.bridges.add(v);
    } else if (letter == 'o') {
      if (v.length != 1 || v[0] >= w.bridges.size()) return false;
      w.oaks.add(v[0]);
    } else if (letter == 'g') {
      if (v.length != 5 || w.goers.size() == 5) return false;
      if (v[0] >= w.islands || v[1] >= w.islands || v[0] == v[1]) return false;
      if (v[2] < 1 || v[2] > 40 || v[3] > 20 || v[4] > 4) return false;
      Goer g = new Goer();
      g.from = v[0];
      g.to = v[1];
      g.weight = v[2];
      g.gift = v[3];
      g.kind = v[4];
      g.place = g.from;
      g.bound = g.to;
      w.goers.add(g);
    } else {
      return false;
    }
    return true;
  }

  int lay() {
    if (fault() != NONE || parsed.bridges.isEmpty()) return NO;
    world = parsed;
    undos.clear();
    keeps.clear();
    ledger.clear();
    return world.islands;
  }

  private boolean noBridge(int b) {
    return b < 0 || b >= world.bridges.size();
  }

  private boolean noGoer(int i) {
    return i < 0 || i >= world.goers.size();
  }

  private boolean noIsland(int a) {
    return a < 0 || a >= world.islands;
  }

  int bridge(int b, int what) {
    if (noBridge(b) || what < 0 || what > 7) return BAD;
    int[] all = {
      world.bridges.get(b)[0], world.bridges.get(b)[1], world.bridges.get(b)[2],
      world.oaks.contains(b) ? 1 : 0, world.guards.contains(b) ? 1 : 0,
      world.planks(b, world.day), world.shows(b, world.day), world.putOn(b, world.day)
    };
    return all[what];
  }

  int goer(int i, int what) {
    if (noGoer(i) || what < 0 || what > 6) return BAD;
    Goer g = world.goers.get(i);
    int[] all = {
      g.fallen ? NONE : g.place, g.bound, g.weight, g.gift, g.kind, g.need(), world.way(i)
    };
    return all[what];
  }

  private void remember() {
    undos.addLast(world.twin());
    if (undos.size() > 8) undos.removeFirst();
  }

  int days(int n) {
    if (n < 1 || n > 60) return BAD;
    if (world.day + n > 99) return NO;
    remember();
    world = world.behind(n);
    return world.day;
  }

  int put(int b, int p) {
    if (noBridge(b) || p < 1 || p > 99) return BAD;
    if (world.putOn(b, world.day) + p > 99) return NO;
    remember();
    world.drop(b, p);
    return world.putOn(b, world.day);
  }

  int guard(int b, boolean on) {
    if (noBridge(b)) return BAD;
    remember();
    if (on) world.guards.add(b);
    else world.guards.remove(b);
    return world.guards.size();
  }

  int undo() {
    if (undos.isEmpty()) return NO;
    world = undos.removeLast();
    return undos.size();
  }

  private static boolean no(int n, int low) {
    return n < low || n > 60;
  }

  int where(int n, int i) {
    if (no(n, 0) || noGoer(i)) return BAD;
    Goer g = world.behind(n).goers.get(i);
    return g.fallen ? NONE : g.place;
  }

  int planks(int n, int b) {
    if (no(n, 0) || noBridge(b)) return BAD;
    return world.behind(n).planks(b, world.day + n);
  }

  int all(int n, int what) {
    if (no(n, 0) || what < 0 || what > 3) return BAD;
    World w = world.behind(n);
    return new int[] {w.waits, w.falls, w.given, w.taken}[what];
  }

  int abbot(int n) {
    if (no(n, 1)) return BAD;
    for (int c = 0; c <= 20; c++) {
      World w = world.twin();
      for (int k = 0; k < n; k++) {
        if (k == w.delay) w.waits = 0;
        w.live(c);
      }
      if (n <= w.delay || w.waits == 0) return c;
    }
    return NONE;
  }

  int oak(int n) {
    if (no(n, 1)) return BAD;
    int best = NONE;
    int least = Integer.MAX_VALUE;
    for (int b = 0; b < world.bridges.size(); b++) {
      World w = world.twin();
      if (!w.oaks.add(b)) continue;
      int waits = w.behind(n).waits;
      if (waits < least) best = b;
      least = Math.min(least, waits);
    }
    return best;
  }

  int delays(int n) {
    if (no(n, 1)) return BAD;
    int best = 0;
    int least = Integer.MAX_VALUE;
    for (int d = 1; d <= 9; d++) {
      World w = world.twin();
      w.delay = d;
      int waits = w.behind(n).waits;
      if (waits < least) best = d;
      least = Math.min(least, waits);
    }
    return best;
  }

  int watch(int n) {
    if (no(n, 1)) return BAD;
    int best = 0;
    int least = Integer.MAX_VALUE;
    for (int b = 0; b < world.bridges.size(); b++) {
      World w = world.twin();
      w.guards.add(b);
      int falls = w.behind(n).falls;
      if (falls < least) best = b;
      least = Math.min(least, falls);
    }
    return best;
  }

  int sent(int a, int b, int w, int what) {
    if (noIsland(a) || noIsland(b) || w < 1 || w > 40 || what < 0 || what > 1) return BAD;
    if (a == b) return 0;
    long best = cheapest(world.behind(8), a, b, w, 0, new HashMap<>());
    if (best >= 1000000) return NONE;
    return (int) (what == 0 ? best / 100 : best % 100);
  }

  /** Pence times 100 and bridges, of the cheapest way from here on. */
  private long cheapest(World then, int at, int goal, int w, int k, Map<Integer, Long> known) {
    if (at == goal) return 0;
    if (k == 8) return 1000000;
    Long before = known.get(10 * k + at);
    if (before != null) return before;
    long best = 1000000;
    for (int b = 0; b < then.bridges.size(); b++) {
      int next = then.across(b, at);
      if (next < 0) continue;
      int lack = Math.max(0, w - then.planks(b, world.day + world.delay + k));
      best = Math.min(best, 100L * lack + 1 + cheapest(then, next, goal, w, k + 1, known));
    }
    known.put(10 * k + at, best);
    return best;
  }

  int rumour(int i, int b, int n, int what) {
    if (noGoer(i) || noBridge(b) || no(n, 0) || what < 0 || what > 1) return BAD;
    World w = world.twin();
    w.weak = b;
    w.heard.add(i);
    for (int k = 0; k < n; k++) w.live(0);
    int bits = 0;
    for (int j : w.heard) bits += 1 << j;
    return what == 0 ? bits : w.planks(b, w.day);
  }

  int enter(int b, int t, int w, boolean bore) {
    if (noBridge(b) || t < 0 || t > 99 || w < 1 || w > 80) return BAD;
    if (ledger.size() == 8) return FULL;
    ledger.add(new int[] {b, t, w, bore ? 1 : 0});
    return ledger.size();
  }

  int close() {
    int had = ledger.size();
    ledger.clear();
    return had;
  }

  int span(int b, int t, int what) {
    if (noBridge(b) || t < 0 || t > 99 || what < 0 || what > 1) return BAD;
    TreeSet<Integer> can = new TreeSet<>();
    for (int p = 0; p <= 99; p++) {
      boolean suits = true;
      for (int[] row : ledger) {
        if (row[0] == b && row[1] == t) suits &= (row[3] == 1) == (p >= row[2]);
      }
      if (suits) can.add(p);
    }
    if (can.isEmpty()) return NONE;
    return what == 0 ? can.first() : can.last();
  }

  int cart(int b, int g, int what) {
    if (noBridge(b) || noBridge(g) || b == g || what < 0 || what > 1) return BAD;
    TreeSet<Integer> can = new TreeSet<>();
    int t = world.day;
    for (int w = 1; w <= 40; w++) {
      boolean crosses = world.shows(b, t) >= 2 * w && world.planks(b, t) >= 2 * w;
      boolean falls = world.shows(g, t) >= 2 * w && world.planks(g, t) < 2 * w;
      if (crosses && falls) can.add(w);
    }
    if (what == 0) return can.size();
    return can.isEmpty() ? NONE : can.first();
  }

  int year(int z, int n, int what) {
    if (z < 0 || z > 9999 || no(n, 1) || what < 0 || what > 1) return BAD;
    World w = world.twin();
    for (long k = 0; k < n; k++) {
      long x = 7919L * z + 6151 * k + 1;
      long draw = (x % 65521) * (x % 65521) % 65521;
      w.drop((int) (draw / 16 % w.bridges.size()), (int) (draw % 10));
      w.live(0);
    }
    return what == 0 ? w.waits : w.falls;
  }

  int keep() {
    if (keeps.size() == 2) return FULL;
    keeps.addLast(world.twin());
    return keeps.size();
  }

  int back() {
    if (keeps.isEmpty()) return NO;
    world = keeps.removeLast();
    undos.clear();
    return keeps.size();
  }

  int count(int what) {
    int fallen = 0;
    for (Goer g : world.goers) if (g.fallen) fallen++;
    int[] all = {
      world.islands, world.bridges.size(), world.goers.size(), world.delay, world.day, fallen,
      ledger.size(), undos.size(), keeps.size(), text.length()
    };
    return what < 0 || what >= all.length ? BAD : all[what];
  }
}
