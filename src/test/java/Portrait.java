/**
 * All that the calls tell of an object, as lines that can be compared. Drawing one undoes and takes
 * back all that can be, so that the object is of no use behind it. Few of the 512 calls that an
 * object is good for are left then.
 */
final class Portrait {
  private static final int MOST_UNDONE = 8, MOST_KEPT = 2, LAST_ROW_DAY = 2;

  private final PennyPlanks x;
  private final int bridges, goers, delay;
  private final StringBuilder lines = new StringBuilder();

  private Portrait(PennyPlanks x) {
    this.x = x;
    bridges = x.count(1);
    goers = x.count(2);
    delay = x.count(3);
  }

  static String of(PennyPlanks x) {
    return new Portrait(x).draw(true);
  }

  /** But the text: how long it is, and its fault. */
  static String ofDelta(PennyPlanks x) {
    return new Portrait(x).draw(false);
  }

  private String draw(boolean textToo) {
    if (textToo) line("text", x.count(9), x.fault());
    for (int what = 0; what < 9; what++) line("count " + what, x.count(what));
    drawBridges();
    drawGoers();
    for (int n = 1; n <= 9; n++) line("delays " + n, x.delays(n));
    for (int what = 0; what < 4; what++) line("all " + what, x.all(20, what));
    drawLedger();
    drawUndone();
    drawKept();
    if (textToo) line("wiped", x.wipe());
    return lines.toString();
  }

  private void line(String name, int... answers) {
    lines.append(name);
    for (int answer : answers) lines.append(' ').append(answer);
    lines.append('\n');
  }

  private void drawBridges() {
    for (int b = 0; b < bridges; b++) {
      for (int what = 0; what < 8; what++) line("bridge " + b + " " + what, x.bridge(b, what));
      for (int n = 1; n <= delay; n++) line("planks " + n + " " + b, x.planks(n, b));
    }
  }

  private void drawGoers() {
    for (int i = 0; i < goers; i++) {
      for (int what = 0; what < 7; what++) line("goer " + i + " " + what, x.goer(i, what));
    }
  }

  private void drawLedger() {
    for (int b = 0; b < bridges; b++) {
      for (int t = 0; t <= LAST_ROW_DAY; t++) {
        line("span " + b + " " + t, x.span(b, t, 0), x.span(b, t, 1));
      }
    }
  }

  private void drawUndone() {
    for (int k = 0; k <= MOST_UNDONE; k++) {
      line("undo", x.undo());
      sketch();
    }
  }

  private void drawKept() {
    for (int k = 0; k <= MOST_KEPT; k++) {
      line("back", x.back(), x.count(7));
      sketch();
    }
  }

  /** The few answers that any day, penny or guard shows in. */
  private void sketch() {
    line("day", x.count(4), x.count(5));
    for (int b = 0; b < bridges; b++) line("box", x.bridge(b, 4), x.bridge(b, 5), x.bridge(b, 7));
    for (int i = 0; i < goers; i++) line("goer", x.goer(i, 0), x.goer(i, 1));
  }
}
