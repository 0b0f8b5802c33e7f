/** Bridges that bear today as many planks as pence were put in their boxes some days ago. */
public final class PennyPlanks {
  public static final int BAD = -1, NO = -2, FULL = -3, NONE = -4;

  private static final String FIRST_TEXT = "i3;b0,1,4;b1,2,5;b0,2,2;g0,2,3,2,0;g2,0,2,1,2;";
  private static final int MOST_LETTERS = 200, MOST_UNDONE = 8, MOST_KEPT = 2;
  private static final int LAST_DAY = 99, LONGEST = 60, MOST_PUT = 99;
  private static final int MOST_ALMS = 20, HEAVIEST = 40;
  private static final int ISLANDS = 8, BRIDGES = 9, GOERS = 5;
  private static final int LONGEST_DELAY = 9;
  private static final int OAK_PLANKS = 5;
  private static final int CART = 1, CHILD = 2, THIEF = 3, FAITHFUL = 4;

  private final int[] letters = new int[MOST_LETTERS];
  private int length;
  private final Reader reader = new Reader();
  private Delta delta = new Delta();
  private Delta draft = new Delta();
  private final State now = new State();
  private final Course course = new Course();
  private final Traveller traveller = new Traveller();
  private final Ledger ledger = new Ledger();
  private final Pile undoable = new Pile(MOST_UNDONE);
  private final Pile kept = new Pile(MOST_KEPT);

  public PennyPlanks() {
    for (int i = 0; i < FIRST_TEXT.length() && i < MOST_LETTERS; i++) {
      letters[i] = FIRST_TEXT.charAt(i);
    }
    reader.read(letters, FIRST_TEXT.length(), delta);
    now.start(delta);
  }

  // ---- deltas

  public int write(int letter) {
    if (!isWithin(letter, 32, 126)) return BAD;
    if (length < 0 || length >= letters.length) return FULL;
    letters[length] = letter;
    length++;
    return length;
  }

  public int wipe() {
    int was = length;
    length = 0;
    return was;
  }

  public int fault() {
    return reader.read(letters, length, draft);
  }

  public int lay() {
    if (reader.read(letters, length, draft) != NONE || draft.bridges == 0) return NO;
    Delta old = delta;
    delta = draft;
    draft = old;
    now.start(delta);
    ledger.rows = 0;
    undoable.size = 0;
    kept.size = 0;
    return delta.islands;
  }

  public int bridge(int b, int what) {
    if (!isBridge(b)) return BAD;
    lookAtToday();
    switch (what) {
      case 0: return delta.oneEnd[b];
      case 1: return delta.otherEnd[b];
      case 2: return delta.pence[b];
      case 3: return delta.oaks >> b & 1;
      case 4: return now.guarded >> b & 1;
      case 5: return course.planks[b];
      case 6: return course.shown[b];
      case 7: return now.box[b];
      default: return BAD;
    }
  }

  public int goer(int i, int what) {
    if (!isGoer(i)) return BAD;
    lookAtToday();
    switch (what) {
      case 0: return now.place[i];
      case 1: return now.bound[i];
      case 2: return delta.weight[i];
      case 3: return delta.gift[i];
      case 4: return delta.kind[i];
      case 5: return delta.need[i];
      case 6: return course.firstBridge(i);
      default: return BAD;
    }
  }

  private void lookAtToday() {
    course.begin(delta, now);
    course.look(now.today);
  }

  // ---- days

  public int days(int n) {
    if (!isWithin(n, 1, LONGEST)) return BAD;
    if (now.today + n > LAST_DAY) return NO;
    undoable.push(now);
    goBehind(n);
    now.copy(course.state);
    return now.today;
  }

  public int put(int b, int p) {
    if (!isBridge(b) || !isWithin(p, 1, MOST_PUT)) return BAD;
    // Goers give only while a day goes by, so what lies in today's box now was PUT.
    if (now.box[b] + p > MOST_PUT) return NO;
    undoable.push(now);
    now.box[b] += p;
    return now.box[b];
  }

  public int guard(int b, boolean on) {
    if (!isBridge(b)) return BAD;
    undoable.push(now);
    if (on) now.guarded |= 1 << b;
    else now.guarded &= ~(1 << b);
    return Integer.bitCount(now.guarded);
  }

  public int undo() {
    if (!undoable.pop(now)) return NO;
    return undoable.size;
  }

  public int where(int n, int i) {
    if (!isWithin(n, 0, LONGEST) || !isGoer(i)) return BAD;
    goBehind(n);
    return course.state.place[i];
  }

  public int planks(int n, int b) {
    if (!isWithin(n, 0, LONGEST) || !isBridge(b)) return BAD;
    goBehind(n);
    return planksThen(b);
  }

  public int all(int n, int what) {
    if (!isWithin(n, 0, LONGEST) || !isWithin(what, 0, 3)) return BAD;
    goBehind(n);
    switch (what) {
      case 0: return course.waited;
      case 1: return course.fell;
      case 2: return course.given;
      default: return course.taken;
    }
  }

  private void goBehind(int n) {
    course.begin(delta, now);
    course.pass(n);
  }

  private int planksThen(int b) {
    course.look(course.state.today);
    return course.planks[b];
  }

  // ---- what should be

  public int abbot(int n) {
    if (!isWithin(n, 1, LONGEST)) return BAD;
    for (int c = 0; c <= MOST_ALMS; c++) {
      if (nobodyWaits(c, n)) return c;
    }
    return NONE;
  }

  private boolean nobodyWaits(int alms, int n) {
    course.begin(delta, now);
    course.alms = alms;
    for (int k = 0; k < n; k++) {
      int before = course.waited;
      course.passDay();
      if (k >= delta.delay && course.waited > before) return false;
    }
    return true;
  }

  public int oak(int n) {
    if (!isWithin(n, 1, LONGEST)) return BAD;
    int best = NONE;
    int least = 0;
    for (int b = 0; b < delta.bridges; b++) {
      if ((delta.oaks >> b & 1) != 0) continue;
      course.begin(delta, now);
      course.oaks |= 1 << b;
      course.pass(n);
      if (best == NONE || course.waited < least) {
        best = b;
        least = course.waited;
      }
    }
    return best;
  }

  public int delays(int n) {
    if (!isWithin(n, 1, LONGEST)) return BAD;
    int best = NONE;
    int least = 0;
    for (int d = 1; d <= LONGEST_DELAY; d++) {
      course.begin(delta, now);
      course.delay = d;
      course.pass(n);
      if (best == NONE || course.waited < least) {
        best = d;
        least = course.waited;
      }
    }
    return best;
  }

  public int watch(int n) {
    if (!isWithin(n, 1, LONGEST)) return BAD;
    int best = NONE;
    int least = 0;
    for (int b = 0; b < delta.bridges; b++) {
      course.begin(delta, now);
      course.state.guarded |= 1 << b;
      course.pass(n);
      if (best == NONE || course.fell < least) {
        best = b;
        least = course.fell;
      }
    }
    return best;
  }

  public int sent(int a, int b, int w, int what) {
    if (!isIsland(a) || !isIsland(b) || !isWithin(w, 1, HEAVIEST) || !isWithin(what, 0, 1)) {
      return BAD;
    }
    if (a == b) return 0;
    course.begin(delta, now);
    traveller.seek(course, a, b, w);
    return what == 0 ? traveller.leastPence : traveller.fewestBridges;
  }

  // ---- rumours, ledgers

  public int rumour(int i, int b, int n, int what) {
    if (!isGoer(i) || !isBridge(b) || !isWithin(n, 0, LONGEST) || !isWithin(what, 0, 1)) {
      return BAD;
    }
    course.begin(delta, now);
    course.weak = b;
    course.heard = 1 << i;
    course.pass(n);
    return what == 0 ? course.heard : planksThen(b);
  }

  public int enter(int b, int t, int w, boolean bore) {
    if (!isBridge(b) || !isWithin(t, 0, LAST_DAY) || !isWithin(w, 1, 2 * HEAVIEST)) return BAD;
    return ledger.add(b, t, w, bore);
  }

  public int close() {
    int had = ledger.rows;
    ledger.rows = 0;
    return had;
  }

  public int span(int b, int t, int what) {
    if (!isBridge(b) || !isWithin(t, 0, LAST_DAY) || !isWithin(what, 0, 1)) return BAD;
    int least = ledger.least(b, t);
    int most = ledger.most(b, t);
    if (least > most) return NONE;
    return what == 0 ? least : most;
  }

  public int cart(int b, int g, int what) {
    if (!isBridge(b) || !isBridge(g) || b == g || !isWithin(what, 0, 1)) return BAD;
    lookAtToday();
    int many = 0;
    int least = NONE;
    for (int w = HEAVIEST; w >= 1; w--) {
      int need = 2 * w;
      // A bridge shows all its planks, so one that bears a cart lets it go as well.
      if (need <= course.planks[b] && need > course.planks[g] && need <= course.shown[g]) {
        many++;
        least = w;
      }
    }
    return what == 0 ? many : least;
  }

  public int year(int z, int n, int what) {
    if (!isWithin(z, 0, 9999) || !isWithin(n, 1, LONGEST) || !isWithin(what, 0, 1)) return BAD;
    course.begin(delta, now);
    for (int k = 0; k < n; k++) {
      putByDraw(drawn(z, k));
      course.passDay();
    }
    return what == 0 ? course.waited : course.fell;
  }

  private static int drawn(int z, int k) {
    long x = 7919L * z + 6151L * k + 1;
    return (int) (x * x % 65521);
  }

  private void putByDraw(int draw) {
    if (delta.bridges > 0) course.state.box[draw / 16 % delta.bridges] += draw % 10;
  }

  public int keep() {
    if (kept.size >= MOST_KEPT) return FULL;
    kept.push(now);
    return kept.size;
  }

  public int back() {
    if (!kept.pop(now)) return NO;
    undoable.size = 0;
    return kept.size;
  }

  public int count(int what) {
    switch (what) {
      case 0: return delta.islands;
      case 1: return delta.bridges;
      case 2: return delta.goers;
      case 3: return delta.delay;
      case 4: return now.today;
      case 5: return now.fallen(delta.goers);
      case 6: return ledger.rows;
      case 7: return undoable.size;
      case 8: return kept.size;
      case 9: return length;
      default: return BAD;
    }
  }

  private boolean isIsland(int a) {
    return a >= 0 && a < delta.islands && a < ISLANDS;
  }

  private boolean isBridge(int b) {
    return b >= 0 && b < delta.bridges && b < BRIDGES;
  }

  private boolean isGoer(int i) {
    return i >= 0 && i < delta.goers && i < GOERS;
  }

  private static boolean isWithin(int number, int low, int high) {
    return number >= low && number <= high;
  }

  /** What a text lays: islands, bridges and goers as they are told, which no day changes. */
  private static final class Delta {
    int islands, delay, bridges, goers;
    int oaks;
    final int[] oneEnd = new int[BRIDGES];
    final int[] otherEnd = new int[BRIDGES];
    final int[] pence = new int[BRIDGES];
    final int[] home = new int[GOERS];
    final int[] errand = new int[GOERS];
    final int[] weight = new int[GOERS];
    final int[] gift = new int[GOERS];
    final int[] kind = new int[GOERS];
    final int[] need = new int[GOERS];

    void empty() {
      islands = 4;
      delay = 7;
      bridges = 0;
      goers = 0;
      oaks = 0;
    }

    /** The lowest of the usable bridges from here to one of the near islands (bits), or NONE. */
    int lowestInto(int near, int here, int usable) {
      for (int b = 0; b < bridges; b++) {
        if ((usable >> b & 1) == 0) continue;
        if (oneEnd[b] == here && (near >> otherEnd[b] & 1) != 0) return b;
        if (otherEnd[b] == here && (near >> oneEnd[b] & 1) != 0) return b;
      }
      return NONE;
    }

    /** The near islands (bits) and all that are one usable bridge away from one of them. */
    int widened(int near, int usable) {
      int wider = near;
      for (int b = 0; b < bridges; b++) {
        if ((usable >> b & 1) == 0) continue;
        int ends = 1 << oneEnd[b] | 1 << otherEnd[b];
        if ((near & ends) != 0) wider |= ends;
      }
      return wider;
    }

    int lowestBeside(int here) {
      for (int b = 0; b < bridges; b++) {
        if (oneEnd[b] == here || otherEnd[b] == here) return b;
      }
      return NONE;
    }
  }

  /** Reads a text into a delta, item by item. */
  private static final class Reader {
    private static final int MOST_NUMBERS = 5;

    private final int[] numbers = new int[MOST_NUMBERS];
    private int told;
    private boolean islandsCanCome;

    /** The place of the first item that is not so, or NONE. */
    int read(int[] text, int length, Delta into) {
      into.empty();
      islandsCanCome = true;
      int end = length < text.length ? length : text.length;
      int place = 0;
      for (int items = 0; items < end && place < end; items++) {
        int behind = scan(text, place + 1, end);
        if (behind == NONE || !take(text[place], into)) return place;
        place = behind;
      }
      return NONE;
    }

    /** Reads an item's numbers: the place behind its ; or NONE. */
    private int scan(int[] text, int from, int end) {
      int place = from;
      for (int n = 0; n < MOST_NUMBERS; n++) {
        int figures = 0;
        int number = 0;
        while (figures < 2 && place < end && text[place] >= '0' && text[place] <= '9') {
          number = 10 * number + text[place] - '0';
          figures++;
          place++;
        }
        if (figures == 0 || place >= end) return NONE;
        numbers[n] = number;
        told = n + 1;
        int mark = text[place];
        place++;
        if (mark == ';') return place;
        if (mark != ',') return NONE;
      }
      return NONE;
    }

    private boolean take(int letter, Delta into) {
      if (letter == 'i') return takeIslands(into);
      islandsCanCome = false;
      switch (letter) {
        case 'd': return takeDelay(into);
        case 'b': return takeBridge(into);
        case 'o': return takeOak(into);
        case 'g': return takeGoer(into);
        default: return false;
      }
    }

    private boolean takeIslands(Delta into) {
      if (told != 1 || !islandsCanCome || !isWithin(numbers[0], 2, ISLANDS)) return false;
      into.islands = numbers[0];
      return true;
    }

    private boolean takeDelay(Delta into) {
      if (told != 1 || !isWithin(numbers[0], 1, LONGEST_DELAY)) return false;
      into.delay = numbers[0];
      return true;
    }

    private boolean takeBridge(Delta into) {
      int b = into.bridges;
      if (told != 3 || b < 0 || b >= BRIDGES || !areTwoIslands(into)) return false;
      into.oneEnd[b] = numbers[0];
      into.otherEnd[b] = numbers[1];
      into.pence[b] = numbers[2];
      into.bridges++;
      return true;
    }

    private boolean takeOak(Delta into) {
      if (told != 1 || numbers[0] >= into.bridges) return false;
      into.oaks |= 1 << numbers[0];
      return true;
    }

    private boolean takeGoer(Delta into) {
      int i = into.goers;
      if (told != 5 || i < 0 || i >= GOERS || !areTwoIslands(into)) return false;
      if (!isWithin(numbers[2], 1, HEAVIEST)) return false;
      if (!isWithin(numbers[3], 0, 20) || !isWithin(numbers[4], 0, FAITHFUL)) return false;
      into.home[i] = numbers[0];
      into.errand[i] = numbers[1];
      into.weight[i] = numbers[2];
      into.gift[i] = numbers[3];
      into.kind[i] = numbers[4];
      into.need[i] = numbers[4] == CART ? 2 * numbers[2] : numbers[2];
      into.goers++;
      return true;
    }

    private boolean areTwoIslands(Delta into) {
      return numbers[0] < into.islands && numbers[1] < into.islands && numbers[0] != numbers[1];
    }
  }

  /** All that days, pence and guards change. */
  private static final class State {
    int today;
    int guarded;
    // What is put in the boxes today, and what of it is stolen.
    final int[] box = new int[BRIDGES];
    final int[] lost = new int[BRIDGES];
    // The same of the days ahead of today that the longest delay looks back upon.
    final int[] pastPut = new int[BRIDGES * LONGEST_DELAY];
    final int[] pastStolen = new int[BRIDGES * LONGEST_DELAY];
    // NONE: fallen.
    final int[] place = new int[GOERS];
    final int[] bound = new int[GOERS];

    void start(Delta delta) {
      today = 0;
      guarded = 0;
      for (int b = 0; b < BRIDGES; b++) {
        box[b] = 0;
        lost[b] = 0;
        for (int t = -LONGEST_DELAY; t < 0; t++) {
          pastPut[slot(b, t)] = delta.pence[b];
          pastStolen[slot(b, t)] = 0;
        }
      }
      for (int i = 0; i < GOERS; i++) {
        place[i] = delta.home[i];
        bound[i] = delta.errand[i];
      }
    }

    void copy(State from) {
      today = from.today;
      guarded = from.guarded;
      System.arraycopy(from.box, 0, box, 0, box.length);
      System.arraycopy(from.lost, 0, lost, 0, lost.length);
      System.arraycopy(from.pastPut, 0, pastPut, 0, pastPut.length);
      System.arraycopy(from.pastStolen, 0, pastStolen, 0, pastStolen.length);
      System.arraycopy(from.place, 0, place, 0, place.length);
      System.arraycopy(from.bound, 0, bound, 0, bound.length);
    }

    void endDay() {
      for (int b = 0; b < BRIDGES; b++) {
        pastPut[slot(b, today)] = box[b];
        pastStolen[slot(b, today)] = lost[b];
        box[b] = 0;
        lost[b] = 0;
      }
      today++;
    }

    int fallen(int goers) {
      int many = 0;
      for (int i = 0; i < goers && i < GOERS; i++) {
        if (place[i] == NONE) many++;
      }
      return many;
    }

    /** Where one of the LONGEST_DELAY days ahead of today stands in a past row. */
    static int slot(int b, int day) {
      return b * LONGEST_DELAY + Math.floorMod(day, LONGEST_DELAY);
    }
  }

  /** Days that go by on a copy of a state, and what is otherwise in them. */
  private static final class Course {
    final State state = new State();
    Delta delta = new Delta();
    int delay, alms, oaks;
    int weak, heard;
    int waited, fell, given, taken;
    // As they are on the day that was looked at last.
    final int[] shown = new int[BRIDGES];
    final int[] planks = new int[BRIDGES];

    void begin(Delta on, State from) {
      delta = on;
      state.copy(from);
      delay = on.delay;
      oaks = on.oaks;
      alms = 0;
      weak = NONE;
      heard = 0;
      waited = 0;
      fell = 0;
      given = 0;
      taken = 0;
    }

    /** Looks at all bridges as they are on a day, DELAY days at most behind the last past one. */
    void look(int day) {
      for (int b = 0; b < delta.bridges; b++) {
        int then = State.slot(b, day - delay);
        int oak = (oaks >> b & 1) != 0 ? OAK_PLANKS : 0;
        shown[b] = state.pastPut[then] + oak;
        planks[b] = shown[b] - state.pastStolen[then];
      }
    }

    void pass(int n) {
      for (int k = 0; k < n; k++) passDay();
    }

    void passDay() {
      giveAlms();
      look(state.today);
      for (int i = 0; i < delta.goers; i++) {
        if (state.place[i] != NONE) go(i);
      }
      spreadRumour();
      state.endDay();
    }

    private void giveAlms() {
      for (int b = 0; b < delta.bridges; b++) state.box[b] += alms;
    }

    private void go(int i) {
      int b = firstBridge(i);
      if (b == NONE) {
        waitHere(i);
      } else if (planks[b] < delta.need[i]) {
        state.place[i] = NONE;
        fell++;
      } else {
        cross(i, b);
      }
    }

    /** The bridge that a goer would take today, or NONE. */
    int firstBridge(int i) {
      int here = state.place[i];
      if (here == NONE) return NONE;
      int usable = usableFor(i);
      int near = 1 << state.bound[i];
      for (int far = 1; far < ISLANDS; far++) {
        int first = delta.lowestInto(near, here, usable);
        if (first != NONE) return first;
        int wider = delta.widened(near, usable);
        if (wider == near) return NONE;
        near = wider;
      }
      return NONE;
    }

    private int usableFor(int i) {
      int usable = 0;
      for (int b = 0; b < delta.bridges; b++) {
        if (shown[b] >= delta.need[i]) usable |= 1 << b;
      }
      if (weak != NONE && (heard >> i & 1) != 0) usable &= ~(1 << weak);
      return usable;
    }

    private void waitHere(int i) {
      waited++;
      if (delta.kind[i] != FAITHFUL) return;
      int b = delta.lowestBeside(state.place[i]);
      if (b != NONE) give(b, delta.gift[i]);
    }

    private void cross(int i, int b) {
      boolean fromOne = state.place[i] == delta.oneEnd[b];
      state.place[i] = fromOne ? delta.otherEnd[b] : delta.oneEnd[b];
      int kind = delta.kind[i];
      if (kind == THIEF) {
        steal(b, delta.gift[i]);
      } else if (kind != CHILD || state.today % 2 == 0) {
        give(b, delta.gift[i]);
      }
      if (state.place[i] == state.bound[i]) turnRound(i);
    }

    private void give(int b, int p) {
      state.box[b] += p;
      given += p;
    }

    private void steal(int b, int p) {
      if ((state.guarded >> b & 1) != 0) return;
      int there = state.box[b] - state.lost[b];
      int stolen = p < there ? p : there;
      state.lost[b] += stolen;
      taken += stolen;
    }

    private void turnRound(int i) {
      boolean atHome = state.place[i] == delta.home[i];
      state.bound[i] = atHome ? delta.errand[i] : delta.home[i];
    }

    private void spreadRumour() {
      int told = 0;
      for (int i = 0; i < delta.goers; i++) {
        if ((heard >> i & 1) != 0 && state.place[i] != NONE) told |= 1 << state.place[i];
      }
      for (int i = 0; i < delta.goers; i++) {
        if (state.place[i] != NONE && (told >> state.place[i] & 1) != 0) heard |= 1 << i;
      }
    }
  }

  /** Seeks the way on which the fewest pence must be sent ahead. */
  private static final class Traveller {
    private static final int MOST_STEPS = 8;
    // More than any way can cost.
    private static final int FAR = 1000000;

    int leastPence, fewestBridges;
    private int[] cost = new int[ISLANDS];
    private int[] nextCost = new int[ISLANDS];

    void seek(Course course, int from, int to, int need) {
      leastPence = NONE;
      fewestBridges = NONE;
      for (int a = 0; a < ISLANDS; a++) cost[a] = a == from ? 0 : FAR;
      for (int step = 1; step <= MOST_STEPS; step++) {
        // Once a day is over, the planks that its pence make DELAY days later are settled.
        course.passDay();
        course.look(course.state.today - 1 + course.delay);
        goOn(course, need);
        if (cost[to] < FAR && (leastPence == NONE || cost[to] < leastPence)) {
          leastPence = cost[to];
          fewestBridges = step;
        }
      }
    }

    private void goOn(Course course, int need) {
      for (int a = 0; a < ISLANDS; a++) nextCost[a] = FAR;
      Delta delta = course.delta;
      for (int b = 0; b < delta.bridges; b++) {
        int lack = course.planks[b] < need ? need - course.planks[b] : 0;
        improve(delta.oneEnd[b], delta.otherEnd[b], lack);
        improve(delta.otherEnd[b], delta.oneEnd[b], lack);
      }
      int[] row = cost;
      cost = nextCost;
      nextCost = row;
    }

    private void improve(int from, int to, int lack) {
      if (cost[from] < FAR && cost[from] + lack < nextCost[to]) nextCost[to] = cost[from] + lack;
    }
  }

  /** What bridges are said to have borne on days. */
  private static final class Ledger {
    private static final int MOST_ROWS = 8, MOST_PLANKS = 99;

    int rows;
    private final int[] bridgeOf = new int[MOST_ROWS];
    private final int[] dayOf = new int[MOST_ROWS];
    private final int[] needOf = new int[MOST_ROWS];
    private final int[] boreOf = new int[MOST_ROWS];

    /** How many rows there are then, or FULL. */
    int add(int b, int t, int w, boolean bore) {
      if (rows < 0 || rows >= MOST_ROWS) return FULL;
      bridgeOf[rows] = b;
      dayOf[rows] = t;
      needOf[rows] = w;
      boreOf[rows] = bore ? 1 : 0;
      rows++;
      return rows;
    }

    int least(int b, int t) {
      int least = 0;
      for (int r = 0; r < rows && r < MOST_ROWS; r++) {
        if (isOf(r, b, t) && boreOf[r] == 1 && needOf[r] > least) least = needOf[r];
      }
      return least;
    }

    int most(int b, int t) {
      int most = MOST_PLANKS;
      for (int r = 0; r < rows && r < MOST_ROWS; r++) {
        if (isOf(r, b, t) && boreOf[r] == 0 && needOf[r] <= most) most = needOf[r] - 1;
      }
      return most;
    }

    private boolean isOf(int row, int b, int t) {
      return bridgeOf[row] == b && dayOf[row] == t;
    }
  }

  /** Copies of states, the last one on top; a full pile lets the oldest go. */
  private static final class Pile {
    int size;
    private final State[] states;

    Pile(int most) {
      states = new State[most > 0 ? most : 1];
      for (int i = 0; i < states.length; i++) states[i] = new State();
    }

    void push(State state) {
      if (size >= states.length) dropOldest();
      states[size].copy(state);
      size++;
    }

    private void dropOldest() {
      State oldest = states[0];
      for (int i = 1; i < states.length; i++) states[i - 1] = states[i];
      states[states.length - 1] = oldest;
      size = states.length - 1;
    }

    boolean pop(State into) {
      if (size <= 0 || size > states.length) return false;
      size--;
      into.copy(states[size]);
      return true;
    }
  }
}
