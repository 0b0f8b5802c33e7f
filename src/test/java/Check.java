/** Counts the answers that are not the ones that are due. */
final class Check {
  private final String test;
  private String sentence = "";
  private int wrong;
  private int asked;

  Check(String test) {
    this.test = test;
  }

  /** The document's words that the next answers are held against. */
  void sentence(String words) {
    sentence = words;
  }

  void due(String call, long got, long want) {
    asked++;
    if (got != want) tell(call, Long.toString(got), Long.toString(want));
  }

  void isSo(String what, boolean so) {
    asked++;
    if (!so) tell(what, "no", "yes");
  }

  /** Two portraits of one thing: only the first part that differs is told. */
  void same(String call, String got, String want) {
    asked++;
    if (got.equals(want)) return;
    String[] mine = got.split("\n");
    String[] due = want.split("\n");
    int at = 0;
    while (at < mine.length && at < due.length && mine[at].equals(due[at])) at++;
    tell(call, at < mine.length ? mine[at] : "no more", at < due.length ? due[at] : "no more");
  }

  private void tell(String call, String got, String want) {
    wrong++;
    String of = sentence.isEmpty() ? "" : " (" + sentence + ")";
    System.out.println(test + ": " + call + " answered " + got + ", due is " + want + of);
  }

  void end() {
    System.out.println(asked + " answers, " + wrong + " not as due");
    if (wrong != 0) System.exit(1);
  }

  static void write(PennyPlanks x, String text) {
    for (int i = 0; i < text.length(); i++) x.write(text.charAt(i));
  }

  static PennyPlanks written(String text) {
    PennyPlanks x = new PennyPlanks();
    write(x, text);
    return x;
  }

  static PennyPlanks laid(String text) {
    PennyPlanks x = written(text);
    if (x.lay() < 0) throw new IllegalStateException("not laid: " + text);
    return x;
  }
}
