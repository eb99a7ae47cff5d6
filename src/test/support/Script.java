/** A new object, and calls of it told as texts, each with the answer that is due; the model must answer so, too. */
final class Script {
  private static int wrong = 0;
  private static int calls = 0;

  private final String title;
  private final TallTowers x = new TallTowers();
  private final Model model = new Model();

  Script(String title) {
    this.title = title;
  }

  Script is(String call, long due) {
    return answers(call, String.valueOf(due));
  }

  Script missing(String call) {
    return answers(call, "throws.NoSuchElementException");
  }

  Script wrong(String call) {
    return answers(call, "throws.IllegalArgumentException");
  }

  Script unfit(String call) {
    return answers(call, "throws.IllegalStateException");
  }

  /** Calls whose answers are looked at elsewhere; they must not be refused. */
  Script go(String... calls) {
    for (String call : calls) {
      String got = Face.call(x, Face.nameOf(call), Face.argsOf(call));
      Face.call(model, Face.nameOf(call), Face.argsOf(call));
      if (got.startsWith("throws")) tell(call, got, "no refusal");
    }
    return this;
  }

  private Script answers(String call, String due) {
    calls++;
    String got = Face.call(x, Face.nameOf(call), Face.argsOf(call));
    String told = Face.call(model, Face.nameOf(call), Face.argsOf(call));
    if (!got.equals(due)) tell(call, got, due);
    if (!told.equals(due)) tell(call + " by the model", told, due);
    return this;
  }

  private void tell(String call, String got, String due) {
    wrong++;
    System.out.println(title + ": " + call + " answered " + got + ", due is " + due);
  }

  static void end(String test) {
    System.out.println(test + ": " + calls + " calls, " + wrong + " wrong");
    if (wrong > 0) System.exit(1);
  }
}
