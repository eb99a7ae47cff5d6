import java.util.ArrayList;
import java.util.List;

/** Whatever can be asked of a desk, and a course of calls that goes on with it: two desks that answer all alike are alike. */
final class Looks {
  private Looks() { }

  static List<String> at(int layers, int harms, int events) {
    List<String> calls = new ArrayList<>();
    for (int what = 0; what <= 10; what++) add(calls, "told", what);
    for (int k = 0; k < events; k++) {
      add(calls, "event", k, 0);
      add(calls, "event", k, 1);
    }
    for (int l = 0; l < layers; l++) ofLayer(calls, l);
    for (int y = 0; y < 12; y++) ofYear(calls, y);
    for (int h = 0; h < harms; h++) ofHarm(calls, h, layers);
    for (int i = 0; i < 10; i++) ofInsurer(calls, i, events);
    for (int reason = 0; reason < 7; reason++) {
      add(calls, "burden", reason);
      add(calls, "drops", 0, 7, 11, 3000, reason);
    }
    add(calls, "strongest", 1);
    add(calls, "spent");
    return calls;
  }

  /** What was written but not told must not come up later: some more is done, then taken back. */
  static List<String> goingOn() {
    return new ArrayList<>(List.of("place(11, 3, 7, 2)", "place(10, 800000000, 9, 1)", "lack(9)", "sign(0, 7, 1)",
        "rules(3, 1, 2)", "harm(0, 10, 11, 1000)", "told(1)", "grow(0, 77)", "bears(0, 0)", "settle(8, 3)", "fall(9)",
        "reopen(0)", "bears(0, 0)", "insurer(0, 0)", "insurer(1, 0)", "told(2)", "undone(0)", "without(0, 0)", "shift(0, 1, 0)",
        "other(2, 2, 0, 0)", "best(0, 3)", "heaviest(0, 1)", "back()", "insurer(0, 0)", "back()", "back()", "told(2)",
        "insurer(0, 0)", "back()", "back()", "back()", "back()", "back()", "back()", "insurer(0, 0)", "told(0)", "told(1)",
        "told(2)", "told(6)", "told(7)", "told(10)"));
  }

  private static void ofLayer(List<String> calls, int l) {
    for (int what = 0; what <= 10; what++) add(calls, "layer", l, what);
    for (int k = 0; k < 4; k++) for (int what = 0; what <= 2; what++) add(calls, "signed", l, k, what);
    add(calls, "reach", l);
    add(calls, "usedUp", l);
    add(calls, "takes", 0, 7, 11, 3000, l);
    add(calls, "uneven", 0, 7, 11, 3000, l);
  }

  private static void ofYear(List<String> calls, int y) {
    for (int what = 0; what <= 6; what++) add(calls, "year", y, what);
    for (int k = 0; k < 6; k++) add(calls, "rung", y, k);
    add(calls, "at", y, 12);
    add(calls, "cover", y, 5, 1000000000);
    add(calls, "widest", y, 0);
    add(calls, "share", 0, 7, 11, 3000, y);
    add(calls, "weight", 0, 7, 11, y);
    add(calls, "picks", 0, 7, 11, y);
  }

  private static void ofHarm(List<String> calls, int h, int layers) {
    for (int what = 0; what <= 5; what++) add(calls, "damage", h, what);
    for (int i = 0; i < 10; i++) add(calls, "bears", h, i);
    for (int reason = 0; reason < 7; reason++) add(calls, "falls", h, reason);
    for (int l = 0; l < layers; l++) {
      add(calls, "took", h, l);
      add(calls, "hole", h, l);
      add(calls, "moved", h, l);
    }
  }

  private static void ofInsurer(List<String> calls, int i, int events) {
    for (int what = 0; what <= 4; what++) add(calls, "insurer", i, what);
    add(calls, "rank", i);
    add(calls, "would", 0, 7, 11, 3000, i);
    add(calls, "other", i % 4, 3 - i % 4, 0, i);
    add(calls, "holds", i, 0, 12);
    if (i > 0) add(calls, "spared", i);
    if (events > 0) {
      add(calls, "without", (events - 1) / 2, i);
      add(calls, "shift", 0, events, i);
      add(calls, "after", events - 1, i);
      add(calls, "undone", i % events);
    }
  }

  private static void add(List<String> calls, String name, int... args) {
    StringBuilder b = new StringBuilder(name).append('(');
    for (int i = 0; i < args.length; i++) b.append(i > 0 ? ", " : "").append(args[i]);
    calls.add(b.append(')').toString());
  }
}
