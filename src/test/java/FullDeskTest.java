import java.util.ArrayList;
import java.util.List;

/**
 * A desk that is full in every way (40 layers, the last one signed by four, 24 harms, 160 events), asked everything
 * with every number there is, and held against the model; no object has more than 512 calls.
 */
public final class FullDeskTest {
  private static final int CALLS = 512;
  private static int wrong = 0;

  public static void main(String[] args) {
    for (int spread = 0; spread < 4; spread++) {
      List<String> building = building(spread);
      List<String> asking = asking(spread);
      int room = CALLS - building.size() - 3;
      for (int from = 0; from < asking.size() && wrong < 20; from += room) {
        TallTowers x = new TallTowers();
        Model m = new Model();
        for (String call : building) check(x, m, call);
        if (x.told(2) != 160 || x.told(1) != 24 || x.told(0) != 40) {
          wrong++;
          System.out.println("the desk is not full");
        }
        for (String call : asking.subList(from, Math.min(from + room, asking.size()))) check(x, m, call);
      }
    }
    System.out.println("FullDeskTest: " + wrong + " wrong");
    if (wrong > 0) System.exit(1);
  }

  private static void check(TallTowers x, Model m, String call) {
    String got = Face.call(x, Face.nameOf(call), Face.argsOf(call));
    String due = Face.call(m, Face.nameOf(call), Face.argsOf(call));
    if (!got.equals(due)) {
      wrong++;
      System.out.println(call + " answered " + got + ", due is " + due);
    }
  }

  private static List<String> building(int spread) {
    List<String> calls = new ArrayList<>();
    calls.add("lack(8)");
    // The lowest ones come last; years 7 to 11 have no layers.
    for (int k = 0; k < 40; k++) calls.add(call("place", k % 7, 400 - 70 * (k / 7), 20 + k, 1 + k % 3));
    for (int k = 0; k < 40; k++) calls.add(call("sign", k, k % 10, 1 + k % 4));
    for (int k = 1; k < 4; k++) calls.add(call("sign", 39, k, 1 + k % 2));
    for (int k = 30; k < 39; k++) calls.add(call("sign", k, (k + 3) % 10, 5));
    calls.add(call("rules", spread, spread, 3 - spread));
    for (int h = 0; h < 24; h++) calls.add(call("harm", h % 5, h % 5 + h % 3, h % 5 + h % 3 + h % 4, 9 * h + 5));
    calls.add("settle(2, 55)");
    calls.add("fall(6)");
    calls.add(call("rules", 2, (spread + 1) % 4, 0));
    for (int k = 0; calls.size() < 157; k++) {
      int harm = 23 - k % 24;
      calls.add(k % 3 == 0 ? call("reopen", harm) : call("grow", harm, 3 * k + 1));
    }
    calls.add(call("rules", 0, spread, spread));
    calls.add("reopen(23)");
    calls.add("fall(9)");
    return calls;
  }

  private static List<String> asking(int spread) {
    List<String> calls = new ArrayList<>();
    for (int what = 0; what <= 10; what++) calls.add(call("told", what));
    for (int h = 0; h < 24; h++) {
      for (int l = 0; l < 40; l += h == 23 ? 1 : 3) {
        calls.add(call("took", h, l));
        calls.add(call("hole", h, l));
        calls.add(call("moved", h, l));
      }
      for (int i = 0; i < 10; i++) calls.add(call("bears", h, i));
      for (int r = 0; r < 7; r++) calls.add(call("falls", h, r));
      for (int what = 0; what < 6; what++) calls.add(call("damage", h, what));
    }
    for (int l = 0; l < 40; l++) {
      for (int what = 0; what <= 10; what++) calls.add(call("layer", l, what));
      for (int k = 0; k <= 4; k++) calls.add(call("signed", l, k, 2));
      calls.add(call("reach", l));
      calls.add(call("takes", 0, 6, 9, 50 * l + 1, l));
      calls.add(call("uneven", 0, 6, 9, 50 * l + 1, l));
    }
    for (int y = 0; y < 12; y++) {
      for (int what = 0; what <= 6; what++) calls.add(call("year", y, what));
      for (int k = 0; k <= 6; k++) calls.add(call("rung", y, k));
      calls.add(call("share", 0, 11, 11, 1000, y));
      calls.add(call("weight", 0, 11, 11, y));
      calls.add(call("picks", 0, 11, 11, y));
      calls.add(call("widest", y, 0));
    }
    for (int i = 0; i < 10; i++) {
      for (int what = 0; what < 5; what++) calls.add(call("insurer", i, what));
      calls.add(call("rank", i));
      calls.add(call("would", 0, 11, 11, 9999, i));
      calls.add(call("shift", 16 * i, 160, i));
      calls.add(call("shift", 159, 16 * i, i));
      calls.add(call("after", 159, i));
      calls.add(call("without", 159, i));
    }
    for (int k = 0; k < 160; k++) {
      calls.add(call("event", k, 1));
      calls.add(call("undone", k));
    }
    calls.add(call("usedUp", 39));
    calls.add(call("usedUp", 0));
    calls.add(call("best", spread, 3));
    calls.add(call("best", 0, 1));
    calls.add(call("heaviest", spread + 4, 0));
    for (int i = 1; i < 10; i++) calls.add(call("spared", i));
    calls.add("spent()");
    calls.add("back()");
    calls.add(call("place", 11, 0, 1, 1));
    for (int what = 0; what < 3; what++) calls.add(call("status", what));
    return calls;
  }

  private static String call(String name, int... args) {
    StringBuilder b = new StringBuilder(name).append('(');
    for (int i = 0; i < args.length; i++) b.append(i > 0 ? ", " : "").append(args[i]);
    return b.append(')').toString();
  }
}
