import java.util.ArrayList;
import java.util.List;
import java.util.Random;
import java.util.TreeMap;

/** Random runs of calls, each answer held against the plain model of the document. */
public final class AgainstModelTest {
  private static final String[] DOING = {"place", "sign", "lack", "rules", "harm", "grow", "settle", "fall", "reopen", "back"};
  private static final int[] OFTEN = {8, 9, 1, 5, 8, 6, 1, 1, 4, 2};
  private static final String[] SLOW = {"best", "heaviest", "usedUp"};

  private final Random random;
  private final boolean large;
  private final int years;
  private final List<String> run = new ArrayList<>();
  private final TallTowers x = new TallTowers();
  private final Model m = new Model();
  private int layers, harms, events;
  private int wrong;

  private AgainstModelTest(long seed) {
    random = new Random(seed);
    large = seed % 4 == 3;
    years = 2 + random.nextInt(11);
  }

  public static void main(String[] args) {
    int runs = args.length > 0 ? Integer.parseInt(args[0]) : 160;
    int from = args.length > 1 ? Integer.parseInt(args[1]) : 0;
    int wrong = 0;
    for (int seed = from; seed < from + runs && wrong < 5; seed++) {
      AgainstModelTest test = new AgainstModelTest(seed);
      test.go(seed);
      wrong += test.wrong;
    }
    System.out.println("AgainstModelTest: " + wrong + " runs were wrong");
    if (wrong > 0) System.exit(1);
  }

  private void go(long seed) {
    int calls = 60 + random.nextInt(440);
    int asked = 1 + random.nextInt(4);
    for (int i = 0; i < calls && wrong == 0; i++) {
      boolean doing = random.nextInt(asked + 1) == 0 || i < 20;
      step(seed, doing ? doingName() : askingName());
    }
    for (int what = 0; what < 4 && wrong == 0; what++) check(seed, "status", what);
  }

  private String doingName() {
    int all = 0;
    for (int o : OFTEN) all += o;
    int r = random.nextInt(all);
    for (int i = 0; i < DOING.length; i++) {
      r -= OFTEN[i];
      if (r < 0) return DOING[i];
    }
    return "back";
  }

  private String askingName() {
    List<String> names = new ArrayList<>(Face.methods().keySet());
    for (String d : DOING) names.remove(d);
    String name = names.get(random.nextInt(names.size()));
    for (String slow : SLOW) if (name.equals(slow) && (events > 60 || random.nextInt(4) > 0)) return "insurer";
    return name;
  }

  private int some(int least, int most) {
    if (random.nextInt(60) == 0) {
      int[] odd = {least - 1, most + 1, least, most, Integer.MIN_VALUE, Integer.MAX_VALUE, -1, 0};
      return odd[random.nextInt(odd.length)];
    }
    return least + (int) ((most - (long) least + 1) * random.nextDouble());
  }

  private int year() {
    return some(0, years - 1);
  }

  private int size() {
    return large ? some(1, 100_000_000) : random.nextInt(3) == 0 ? some(1, 7) : some(1, 120);
  }

  private int from() {
    return large ? some(0, 900_000_000) : random.nextInt(4) == 0 ? some(0, 1) : some(0, 700);
  }

  private int loss() {
    return large ? some(random.nextBoolean() ? 900_000_000 : 1, 1_000_000_000) : random.nextInt(3) == 0 ? some(1, 20) : some(1, 2500);
  }

  private int height() {
    return large ? some(0, 1_000_000_000) : some(0, 900);
  }

  private int layer() {
    return some(0, Math.max(layers - 1, 0));
  }

  private int harm() {
    return some(0, Math.max(harms - 1, 0));
  }

  private int event() {
    return some(0, Math.max(events - 1, 0));
  }

  private int insurer() {
    return some(0, 9);
  }

  private int[] told(int last) {
    int[] y = {year(), year(), year()};
    if (random.nextInt(12) > 0) java.util.Arrays.sort(y);
    return new int[] {y[0], y[1], y[2], last};
  }

  private int[] told(int loss, int last) {
    int[] y = told(loss);
    return new int[] {y[0], y[1], y[2], y[3], last};
  }

  private int[] argsFor(String name) {
    switch (name) {
      case "place": return new int[] {year(), from(), size(), some(1, 4)};
      case "sign": return new int[] {random.nextBoolean() ? layers - 1 : layer(), insurer(), random.nextInt(3) == 0 ? 10 : some(1, 7)};
      case "lack": return new int[] {year()};
      case "rules": return new int[] {some(0, 3), some(0, 3), some(0, 3)};
      case "harm": return told(loss());
      case "grow": return new int[] {harm(), loss()};
      case "settle": return new int[] {insurer(), height()};
      case "fall": return new int[] {insurer()};
      case "reopen": return new int[] {harm()};
      case "told": return new int[] {some(0, 10)};
      case "event": return new int[] {event(), some(0, 1)};
      case "layer": return new int[] {layer(), some(0, 10)};
      case "signed": return new int[] {layer(), some(0, 4), some(0, 2)};
      case "year": return new int[] {year(), some(0, 6)};
      case "at": return new int[] {year(), height()};
      case "rung": return new int[] {year(), some(0, 6)};
      case "damage": return new int[] {harm(), some(0, 5)};
      case "took": case "hole": case "moved": return new int[] {harm(), layer()};
      case "bears": return new int[] {harm(), insurer()};
      case "falls": return new int[] {harm(), some(0, 6)};
      case "insurer": return new int[] {insurer(), some(0, 4)};
      case "burden": return new int[] {some(0, 6)};
      case "rank": return new int[] {some(0, 9)};
      case "offs": return told(some(0, 3));
      case "would": return told(loss(), insurer());
      case "takes": case "uneven": return told(loss(), layer());
      case "drops": return told(loss(), some(0, 6));
      case "share": return told(loss(), year());
      case "weight": return told(year());
      case "picks": return told(some(0, 5));
      default: return argsForOthers(name);
    }
  }

  private int[] argsForOthers(String name) {
    switch (name) {
      case "other": return new int[] {some(0, 3), some(0, 3), some(0, 3), insurer()};
      case "best": return new int[] {insurer(), some(0, 3)};
      case "without": case "after": return new int[] {event(), insurer()};
      case "undone": return new int[] {event()};
      case "spared": return new int[] {insurer()};
      case "shift": return new int[] {event(), some(0, events), insurer()};
      case "usedUp": case "reach": return new int[] {layer()};
      case "heaviest": return new int[] {insurer(), some(0, 1)};
      case "cover": return new int[] {year(), height(), height()};
      case "widest": return new int[] {year(), some(0, 1)};
      case "strongest": return new int[] {some(0, 1)};
      case "holds": return new int[] {insurer(), year(), height()};
      case "status": return new int[] {some(0, 2)};
      default: return new int[0];
    }
  }

  private void step(long seed, String name) {
    check(seed, name, argsFor(name));
    layers = (int) m.call("told", 0);
    harms = (int) m.call("told", 1);
    events = (int) m.call("told", 2);
  }

  private static final TreeMap<String, Integer> SEEN = new TreeMap<>();

  private void check(long seed, String name, int... args) {
    String call = name + java.util.Arrays.toString(args);
    String got = Face.call(x, name, args);
    String want = Face.call(m, name, args);
    run.add(call + " -> " + got);
    SEEN.merge(name + (got.startsWith("throws") ? " " + got : ""), 1, Integer::sum);
    if (!got.equals(want)) {
      wrong++;
      System.out.println("seed " + seed + ": " + call + " answered " + got + ", the model " + want);
      for (String r : run.subList(Math.max(0, run.size() - 12), run.size())) System.out.println("    " + r);
    }
  }

  static TreeMap<String, Integer> seen() {
    return SEEN;
  }
}
