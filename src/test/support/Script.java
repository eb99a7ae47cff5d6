import java.util.ArrayList;
import java.util.List;
import java.util.Set;

/**
 * A new object, and calls of it told as texts, each with the answer that is due; the model must answer so, too. A call
 * that is refused is tried on twins as well: it must change nothing but how many were refused.
 */
final class Script {
  private static final int CALLS = 512;
  private static final Set<String> DOING =
      Set.of("place", "sign", "lack", "rules", "harm", "grow", "settle", "fall", "reopen", "back");

  private static int wrong = 0;
  private static int calls = 0;

  private final String title;
  private final TallTowers x = new TallTowers();
  private final Model model = new Model();
  private final List<String> done = new ArrayList<>();
  private int ownCalls = 0;

  Script(String title) {
    this.title = title;
  }

  /** A test of one sentence of a promise (0: of the Terms), in the document's own words. */
  static Script on(int promise, String sentence) {
    Script s = new Script((promise == Doc.TERMS ? "terms" : "promise " + promise) + ": " + sentence);
    Sentences.tested(promise, sentence);
    if (!Doc.says(promise, sentence)) s.tell("the document", "no such sentence", "this one");
    return s;
  }

  Script is(String call, long due) {
    return answers(call, String.valueOf(due));
  }

  Script missing(String call) {
    return refused(call, "throws.NoSuchElementException");
  }

  Script wrong(String call) {
    return refused(call, "throws.IllegalArgumentException");
  }

  Script unfit(String call) {
    return refused(call, "throws.IllegalStateException");
  }

  /** Calls whose answers are looked at elsewhere; they must not be refused. */
  Script go(String... calls) {
    for (String call : calls) {
      String got = ask(call);
      String told = Face.call(model, Face.nameOf(call), Face.argsOf(call));
      if (got.startsWith("throws")) tell(call, got, "no refusal");
      if (!told.equals(got)) tell(call, got, told + " by the model");
    }
    return this;
  }

  Script go(List<String> calls) {
    return go(calls.toArray(new String[0]));
  }

  /** A question that changes nothing: looked at on twins. */
  Script asked(String call) {
    go(call);
    for (String fault : Twins.faults(done, call)) tell(call, fault, "nothing changed");
    return this;
  }

  /** An event that is done and taken back: all must be as ahead of it. */
  Script doneAndBack(String call) {
    for (String fault : Twins.faults(done, call, "back()")) tell(call, fault, "all as ahead of it");
    return go(call).go("back()");
  }

  /** An argument, written #, that must be least to most: IllegalArgumentException beyond, on both sides. */
  Script bounds(String call, int least, int most) {
    for (int out : outside(least, most)) wrong(call.replace("#", String.valueOf(out)));
    return inside(call, least, most);
  }

  /** An argument that must be least at least, and has no end. */
  Script atLeast(String call, int least) {
    return wrong(call.replace("#", String.valueOf(least - 1))).wrong(call.replace("#", String.valueOf(Integer.MIN_VALUE)))
        .inside(call, least, Integer.MAX_VALUE);
  }

  /** An argument that is the number of one of so many: NoSuchElementException beyond, on both sides. */
  Script numbers(String call, int count) {
    for (int out : outside(0, count - 1)) missing(call.replace("#", String.valueOf(out)));
    return count > 0 ? inside(call, 0, count - 1) : this;
  }

  /** The three years of a harm, written #, in all ways in which they may be out of their bounds by one. */
  Script harmYears(String call) {
    return bounds(call.replace("#", "#, 3, 5"), 0, 3).bounds(call.replace("#", "1, #, 5"), 1, 5)
        .bounds(call.replace("#", "1, 3, #"), 3, 11)
        .inside(call.replace("#", "#, #, #"), 0, 11).inside(call.replace("#", "0, #, 11"), 0, 11)
        .wrong(call.replace("#", "12, 12, 12")).wrong(call.replace("#", "-1, -1, -1"));
  }

  private static int[] outside(int least, int most) {
    return new int[] {least - 1, most + 1, Integer.MIN_VALUE, Integer.MAX_VALUE};
  }

  /** The last ones inside a bound are not refused: each on a new object, that the one may not hinder the other. */
  private Script inside(String call, int least, int most) {
    for (int last : new int[] {least, most}) {
      TallTowers fresh = new TallTowers();
      Model second = new Model();
      for (String d : done) {
        Face.call(fresh, Face.nameOf(d), Face.argsOf(d));
        Face.call(second, Face.nameOf(d), Face.argsOf(d));
      }
      String exact = call.replace("#", String.valueOf(last));
      String got = Face.call(fresh, Face.nameOf(exact), Face.argsOf(exact));
      String told = Face.call(second, Face.nameOf(exact), Face.argsOf(exact));
      calls++;
      if (got.startsWith("throws")) tell(exact, got, "no refusal");
      if (!got.equals(told)) tell(exact, got, told + " by the model");
    }
    return this;
  }

  private Script refused(String call, String due) {
    answers(call, due);
    for (String fault : Twins.faults(done, call)) tell(call, fault, "nothing changed");
    return this;
  }

  private Script answers(String call, String due) {
    calls++;
    String got = ask(call);
    String told = Face.call(model, Face.nameOf(call), Face.argsOf(call));
    if (!got.equals(due)) tell(call, got, due);
    if (!told.equals(due)) tell(call + " by the model", told, due);
    return this;
  }

  private String ask(String call) {
    ownCalls++;
    if (ownCalls > CALLS) tell(call, "no answer that counts", "a call among the first " + CALLS);
    String got = Face.call(x, Face.nameOf(call), Face.argsOf(call));
    if (DOING.contains(Face.nameOf(call)) && !got.startsWith("throws")) done.add(call);
    return got;
  }

  private void tell(String call, String got, String due) {
    wrong++;
    System.out.println(title + ": " + call + " answered " + got + ", due is " + due);
  }

  static void end(String test) {
    System.out.println(test + ": " + calls + " calls, " + wrong + " wrong");
    if (wrong > 0) System.exit(1);
  }
}
