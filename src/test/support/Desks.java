import java.util.ArrayList;
import java.util.List;

/** Desks that several tests begin with, as the calls that make them. */
final class Desks {
  /** Every kind of event, none of which is refused: 4 layers, 2 harms, 18 events; 2 is settled, 4 fallen, year 3 lacks. */
  static final List<String> RICH = List.of(
      "place(0, 0, 100, 1)", "place(0, 150, 50, 2)", "place(1, 10, 90, 1)", "place(2, 0, 300, 4)", "lack(3)",
      "sign(0, 1, 10)", "sign(1, 2, 3)", "sign(1, 3, 4)", "sign(2, 0, 5)", "sign(2, 4, 5)", "sign(3, 1, 1)",
      "harm(0, 3, 5, 700)", "rules(2, 2, 0)", "harm(1, 2, 4, 90)", "settle(2, 1000)", "fall(4)", "grow(0, 55)", "reopen(1)");
  static final int LAYERS = 4;
  static final int HARMS = 2;
  static final int EVENTS = 18;

  private Desks() { }

  /** So many layers of size 10, six of a year, one on top of the other, from year 0 on. */
  static List<String> layers(int count) {
    List<String> calls = new ArrayList<>();
    for (int k = 0; k < count; k++) calls.add("place(" + k / 6 + ", " + 10 * (k % 6) + ", 10, 1)");
    return calls;
  }

  static List<String> times(int count, String call) {
    List<String> calls = new ArrayList<>();
    for (int k = 0; k < count; k++) calls.add(call);
    return calls;
  }
}
