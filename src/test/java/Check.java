/** Counts the answers that are not the ones that are due. */
final class Check {
  private final String test;
  private int wrong;
  private int asked;

  Check(String test) {
    this.test = test;
  }

  void due(String call, long got, long want) {
    asked++;
    if (got == want) return;
    wrong++;
    System.out.println(test + ": " + call + " answered " + got + ", due is " + want);
  }

  void end() {
    System.out.println(asked + " answers, " + wrong + " not as due");
    if (wrong != 0) System.exit(1);
  }

  static void write(PennyPlanks x, String text) {
    for (int i = 0; i < text.length(); i++) x.write(text.charAt(i));
  }

  static PennyPlanks written(String text) {
    PennyPlanks x = new PennyPlanks();
    write(x, text);
    return x;
  }

  static PennyPlanks laid(String text) {
    PennyPlanks x = written(text);
    if (x.lay() < 0) throw new IllegalStateException("not laid: " + text);
    return x;
  }
}
