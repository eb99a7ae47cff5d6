import java.math.BigInteger;
import java.util.ArrayList;
import java.util.Arrays;
import java.util.Comparator;
import java.util.List;
import java.util.TreeMap;
import java.util.TreeSet;

/**
 * The document told a second time, as plainly as it goes and without regard to speed: nothing is kept that can be
 * counted anew, and amounts are BigIntegers. Tests hold TallTowers against it.
 */
final class Model {
  /** A refusal: 0 NoSuchElementException, 1 IllegalArgumentException, 2 IllegalStateException. */
  static final class Refused extends RuntimeException {
    final int kind;

    Refused(int kind) {
      super(null, null, false, false);
      this.kind = kind;
    }
  }

  record Event(int kind, int about, int... numbers) { }

  static final class Layer {
    int number, year, from, size, times;
    final List<int[]> signers = new ArrayList<>();

    int top() {
      return from + size;
    }
  }

  static final class Harm {
    int number, first, last, shown, grew;
    long loss;
    final TreeMap<Integer, Long> took = new TreeMap<>(), through = new TreeMap<>(), moved = new TreeMap<>();
    final TreeMap<Integer, long[]> had = new TreeMap<>();
    final long[] borne = new long[10], reasons = new long[7];

    Harm copy() {
      Harm h = new Harm();
      h.number = number; h.first = first; h.last = last; h.shown = shown; h.grew = grew; h.loss = loss;
      h.took.putAll(took); h.through.putAll(through); h.moved.putAll(moved);
      had.forEach((k, v) -> h.had.put(k, v.clone()));
      System.arraycopy(borne, 0, h.borne, 0, 10);
      System.arraycopy(reasons, 0, h.reasons, 0, 7);
      return h;
    }

    void forget() {
      took.clear(); through.clear(); moved.clear(); had.clear();
      Arrays.fill(borne, 0);
      Arrays.fill(reasons, 0);
    }

    long insured() {
      return Arrays.stream(reasons).sum();
    }
  }

  static final class World {
    final TreeMap<Integer, Layer> layers = new TreeMap<>();
    final TreeMap<Integer, Harm> harms = new TreeMap<>();
    final TreeSet<Integer> lacks = new TreeSet<>();
    int[] rules = {0, 0, 0};
    final int[] standing = new int[10];
    final long[] cash = new long[10];

    /** A second world that shares what spreading never changes. */
    World forTrying() {
      World w = new World();
      w.layers.putAll(layers);
      harms.forEach((k, v) -> w.harms.put(k, v.copy()));
      w.lacks.addAll(lacks);
      w.rules = rules.clone();
      System.arraycopy(standing, 0, w.standing, 0, 10);
      return w;
    }

    List<Layer> of(int year) {
      List<Layer> found = new ArrayList<>();
      for (Layer l : layers.values()) if (l.year == year) found.add(l);
      found.sort(Comparator.comparingInt(l -> l.from));
      return found;
    }

    boolean gap(int year) {
      return of(year).isEmpty();
    }

    long used(int layer) {
      long all = 0;
      for (Harm h : harms.values()) all += h.took.getOrDefault(layer, 0L);
      return all;
    }

    long left(int layer) {
      Layer l = layers.get(layer);
      return (long) l.size * l.times - used(layer);
    }

    int hole(Layer l) {
      int below = 0;
      for (Layer o : of(l.year)) if (o.top() <= l.from) below = Math.max(below, o.top());
      return l.from - below;
    }

    long can(Harm h, Layer l) {
      return Math.min(l.size - h.took.getOrDefault(l.number, 0L), left(l.number));
    }

    long holeCan(Harm h, Layer l) {
      return Math.max(0, hole(l) - h.through.getOrDefault(l.number, 0L));
    }

    long room(Harm h, int year) {
      long all = 0;
      for (Layer l : of(year)) all += can(h, l) + holeCan(h, l);
      return all;
    }

    long borne(int insurer) {
      long all = 0;
      for (Harm h : harms.values()) all += insurer == 0 ? h.insured() : h.borne[insurer];
      return all;
    }

    List<Integer> setOff(Harm h, int trigger) {
      TreeSet<Integer> years = new TreeSet<>();
      if (trigger == 0 || trigger == 3) for (int y = h.first; y <= h.last; y++) years.add(y);
      if (trigger == 2) for (int y = h.first; y <= h.shown; y++) years.add(y);
      if (trigger == 1 || trigger == 3) years.add(h.shown);
      return new ArrayList<>(years);
    }

    List<Integer> weighed(Harm h) {
      List<Integer> years = setOff(h, rules[0]);
      years.removeIf(lacks::contains);
      return years;
    }

    List<Integer> open(Harm h) {
      List<Integer> years = setOff(h, rules[0]);
      years.removeIf(this::gap);
      return years;
    }

    List<Integer> picked(Harm h) {
      List<Integer> years = open(h);
      Comparator<Integer> by = switch (rules[2]) {
        case 0 -> Comparator.<Integer, Long>comparing(y -> room(h, y)).reversed();
        case 1 -> Comparator.<Integer>reverseOrder();
        case 2 -> Comparator.comparing(y -> of(y).get(0).from);
        default -> Comparator.naturalOrder();
      };
      years.sort(by.thenComparing(Comparator.naturalOrder()));
      return years;
    }

    List<Long> sizeWeights(List<Integer> years) {
      long all = 0, towers = 0;
      for (int y : years) {
        for (Layer l : of(y)) all += l.size;
        if (!gap(y)) towers++;
      }
      List<Long> weights = new ArrayList<>();
      for (int y : years) {
        long own = of(y).stream().mapToLong(l -> l.size).sum();
        weights.add(gap(y) ? (towers == 0 ? 1 : all / towers) : own);
      }
      return weights;
    }

    static List<Long> shares(long amount, List<Long> weights) {
      BigInteger all = BigInteger.ZERO;
      for (long w : weights) all = all.add(BigInteger.valueOf(w));
      List<Long> parts = new ArrayList<>();
      long rest = amount;
      for (long w : weights) {
        long part = BigInteger.valueOf(amount).multiply(BigInteger.valueOf(w)).divide(all).longValueExact();
        parts.add(part);
        rest -= part;
      }
      for (int i = 0; i < weights.size() && rest > 0; i++) {
        if (weights.get(i) > 0) {
          parts.set(i, parts.get(i) + 1);
          rest--;
        }
      }
      return parts;
    }

    /** Answers what is over; what is taken stands in the harm at once. */
    long fill(Harm h, int year, long amount, TreeMap<Integer, Long> newly) {
      for (Layer l : of(year)) {
        long inHole = Math.min(amount, holeCan(h, l));
        h.through.merge(l.number, inHole, Long::sum);
        h.reasons[1] += inHole;
        amount -= inHole;
        long inLayer = Math.min(amount, can(h, l));
        h.took.merge(l.number, inLayer, Long::sum);
        newly.merge(l.number, inLayer, Long::sum);
        amount -= inLayer;
      }
      return amount;
    }

    void byWeights(Harm h, List<Integer> years, List<Long> weights, long amount, TreeMap<Integer, Long> newly) {
      if (years.isEmpty()) {
        h.reasons[3] += amount;
        return;
      }
      List<Long> parts = shares(amount, weights);
      for (int i = 0; i < years.size(); i++) {
        if (gap(years.get(i))) h.reasons[3] += parts.get(i);
        else h.reasons[2] += fill(h, years.get(i), parts.get(i), newly);
      }
    }

    static List<Long> alike(List<Integer> years) {
      List<Long> ones = new ArrayList<>();
      for (int i = 0; i < years.size(); i++) ones.add(1L);
      return ones;
    }

    TreeMap<Integer, Long> fair(Harm h, long amount) {
      World w = forTrying();
      Harm same = w.harms.computeIfAbsent(h.number, n -> h.copy());
      TreeMap<Integer, Long> newly = new TreeMap<>();
      List<Integer> years = w.weighed(same);
      w.byWeights(same, years, alike(years), amount, newly);
      return newly;
    }

    TreeMap<Integer, Long> paid(Harm h, long amount) {
      TreeMap<Integer, Long> newly = new TreeMap<>();
      List<Integer> order = picked(h);
      long rest = amount;
      for (int y : order) rest = fill(h, y, rest, newly);
      h.reasons[order.isEmpty() ? 3 : 2] += rest;
      return newly;
    }

    void contribute(Harm h, TreeMap<Integer, Long> newly, TreeMap<Integer, Long> fair) {
      List<Integer> numbers = new ArrayList<>(layers.keySet());
      List<Long> excess = new ArrayList<>(), debt = new ArrayList<>();
      long inExcess = 0, inDebt = 0;
      for (int l : numbers) {
        long more = newly.getOrDefault(l, 0L) - fair.getOrDefault(l, 0L);
        excess.add(Math.max(more, 0));
        debt.add(Math.max(-more, 0));
        inExcess += Math.max(more, 0);
        inDebt += Math.max(-more, 0);
      }
      long amount = Math.min(inExcess, inDebt);
      if (amount == 0) return;
      List<Long> gets = shares(amount, excess), gives = shares(amount, debt);
      for (int i = 0; i < numbers.size(); i++) {
        long change = gives.get(i) - gets.get(i);
        newly.merge(numbers.get(i), change, Long::sum);
        h.took.merge(numbers.get(i), change, Long::sum);
        h.moved.merge(numbers.get(i), change, Long::sum);
      }
    }

    void byLevel(Harm h, long amount, TreeMap<Integer, Long> newly) {
      List<Integer> years = open(h);
      List<Long> rooms = new ArrayList<>();
      for (int y : years) rooms.add(room(h, y));
      long low = 0, high = 2_000_000_000L;
      while (low < high) {
        long middle = (low + high + 1) / 2, all = 0;
        for (long r : rooms) all += Math.min(r, middle);
        if (all <= amount) low = middle;
        else high = middle - 1;
      }
      long rest = amount;
      for (int i = 0; i < years.size(); i++) {
        long part = Math.min(low, rooms.get(i));
        rest -= part;
        fill(h, years.get(i), part, newly);
      }
      for (int i = 0; i < years.size() && rest > 0; i++) {
        if (rooms.get(i) > low) {
          rest--;
          fill(h, years.get(i), 1, newly);
        }
      }
      h.reasons[years.isEmpty() ? 3 : 2] += rest;
    }

    TreeMap<Integer, Long> spread(Harm h, long amount) {
      TreeMap<Integer, Long> newly = new TreeMap<>();
      List<Integer> years = weighed(h);
      switch (rules[1]) {
        case 0 -> byWeights(h, years, alike(years), amount, newly);
        case 1 -> byWeights(h, years, sizeWeights(years), amount, newly);
        case 2 -> {
          TreeMap<Integer, Long> fair = fair(h, amount);
          newly = paid(h, amount);
          contribute(h, newly, fair);
        }
        default -> byLevel(h, amount, newly);
      }
      newly.forEach((l, taken) -> split(h, layers.get(l), taken));
      return newly;
    }

    void split(Harm h, Layer l, long taken) {
      long tenths = 0, rest;
      for (int[] s : l.signers) tenths += s[1];
      long all = taken * tenths / 10;
      rest = all;
      for (int[] s : l.signers) rest -= taken * s[1] / 10;
      long[] had = h.had.computeIfAbsent(l.number, n -> new long[4]);
      for (int k = 0; k < l.signers.size(); k++) {
        int who = l.signers.get(k)[0];
        long part = taken * l.signers.get(k)[1] / 10 + (k < rest ? 1 : 0);
        had[k] += part;
        if (who == 0) h.reasons[0] += part;
        else if (standing[who] == 0) h.borne[who] += part;
        else h.reasons[4 + standing[who]] += part;
      }
      h.reasons[4] += taken - all;
    }

    boolean carryOut(Event e, boolean rulesHold) {
      int[] n = e.numbers;
      switch (e.kind) {
        case 0 -> {
          if (lacks.contains(n[0]) || of(n[0]).size() == 6 || e.about >= 40) return false;
          for (Layer l : of(n[0])) if (Math.max(l.from, n[1]) < Math.min(l.top(), n[1] + n[2])) return false;
          Layer l = new Layer();
          l.number = e.about; l.year = n[0]; l.from = n[1]; l.size = n[2]; l.times = n[3];
          layers.put(l.number, l);
        }
        case 1 -> {
          Layer l = layers.get(e.about);
          if (l == null || used(e.about) > 0 || l.signers.size() == 4) return false;
          int sum = n[1];
          for (int[] s : l.signers) {
            if (s[0] == n[0]) return false;
            sum += s[1];
          }
          if (sum > 10) return false;
          l.signers.add(new int[] {n[0], n[1]});
        }
        case 2 -> {
          if (lacks.contains(e.about) || !gap(e.about)) return false;
          lacks.add(e.about);
        }
        case 3 -> {
          if (!rulesHold) rules = new int[] {e.about, n[0], n[1]};
        }
        case 4 -> {
          if (e.about >= 24) return false;
          Harm h = harmOf(e.about, n[0], n[1], n[2], n[3]);
          harms.put(e.about, h);
          spread(h, h.loss);
        }
        case 5 -> {
          Harm h = harms.get(e.about);
          if (h == null) return false;
          h.loss += n[0];
          h.grew++;
          spread(h, n[0]);
        }
        case 6, 7 -> {
          if (standing[e.about] != 0) return false;
          standing[e.about] = e.kind == 6 ? 1 : 2;
          cash[e.about] = e.kind == 6 ? n[0] : 0;
        }
        default -> {
          Harm h = harms.get(e.about);
          if (h == null) return false;
          h.forget();
          spread(h, h.loss);
        }
      }
      return true;
    }

    static Harm harmOf(int number, int first, int last, int shown, int loss) {
      Harm h = new Harm();
      h.number = number; h.first = first; h.last = last; h.shown = shown; h.loss = loss;
      return h;
    }
  }

  private final List<Event> events = new ArrayList<>();
  private World now = new World();
  private final int[] refused = new int[3];

  /** A call of the face, by its name. */
  long call(String name, int... a) {
    try {
      return answer(name, a);
    } catch (Refused r) {
      refused[r.kind]++;
      throw r;
    }
  }

  private static void need(int kind, boolean holds) {
    if (!holds) throw new Refused(kind);
  }

  private static boolean in(int x, int least, int most) {
    return least <= x && x <= most;
  }

  private void there(List<Integer> layers, List<Integer> harms, List<Integer> ks) {
    for (int l : layers) need(0, in(l, 0, now.layers.size() - 1));
    for (int h : harms) need(0, in(h, 0, now.harms.size() - 1));
    for (int k : ks) need(0, in(k, 0, events.size() - 1));
  }

  private void layerThere(int l) {
    there(List.of(l), List.of(), List.of());
  }

  private void harmThere(int h) {
    there(List.of(), List.of(h), List.of());
  }

  private void eventThere(int k) {
    there(List.of(), List.of(), List.of(k));
  }

  private static boolean years(int first, int last, int shown) {
    return in(first, 0, 11) && in(last, 0, 11) && in(shown, 0, 11) && first <= last && last <= shown;
  }

  private static boolean money(int x) {
    return in(x, 1, 1_000_000_000);
  }

  private static boolean high(int x) {
    return in(x, 0, 1_000_000_000);
  }

  private static boolean ruled(int t, int s, int p) {
    return in(t, 0, 3) && in(s, 0, 3) && in(p, 0, 3);
  }

  private void enter(int kind, int about, int... numbers) {
    need(2, events.size() < 160);
    Event e = new Event(kind, about, numbers);
    need(2, now.carryOut(e, false));
    events.add(e);
  }

  private static World over(List<Event> course) {
    World w = new World();
    for (Event e : course) w.carryOut(e, false);
    return w;
  }

  private World byRules(int t, int s, int p) {
    World w = new World();
    w.rules = new int[] {t, s, p};
    for (Event e : events) w.carryOut(e, true);
    return w;
  }

  private List<Event> leavingOut(int k) {
    List<Event> course = new ArrayList<>(events);
    course.remove(k);
    return course;
  }

  private long answer(String name, int[] a) {
    switch (name) {
      case "place": case "sign": case "lack": case "rules": case "harm": case "grow": case "settle": case "fall":
      case "reopen": case "back":
        return done(name, a);
      case "told": case "event": case "layer": case "signed": case "year": case "at": case "rung": case "damage":
        return seen(name, a);
      case "took": case "hole": case "moved": case "bears": case "falls": case "insurer": case "burden": case "rank":
        return borne(name, a);
      case "offs": case "would": case "takes": case "drops": case "share": case "weight": case "picks": case "uneven":
        return imagined(name, a);
      case "other": case "best": case "without": case "undone": case "spared": case "shift": case "after":
      case "usedUp": case "heaviest":
        return goneOver(name, a);
      default:
        return lookedAt(name, a);
    }
  }

  private long done(String name, int[] a) {
    switch (name) {
      case "place":
        need(1, in(a[0], 0, 11) && in(a[1], 0, 900_000_000) && in(a[2], 1, 100_000_000) && in(a[3], 1, 4));
        enter(0, now.layers.size(), a);
        return now.layers.size() - 1;
      case "sign":
        layerThere(a[0]);
        need(1, in(a[1], 0, 9) && in(a[2], 1, 10));
        enter(1, a[0], a[1], a[2]);
        return 10 - now.layers.get(a[0]).signers.stream().mapToInt(s -> s[1]).sum();
      case "lack":
        need(1, in(a[0], 0, 11));
        enter(2, a[0]);
        return now.lacks.size();
      case "rules":
        need(1, ruled(a[0], a[1], a[2]));
        if (Arrays.equals(a, now.rules)) return 0;
        enter(3, a[0], a[1], a[2]);
        return 1;
      case "harm":
        need(1, years(a[0], a[1], a[2]) && money(a[3]));
        enter(4, now.harms.size(), a);
        return now.harms.size() - 1;
      case "grow": {
        harmThere(a[0]);
        need(1, money(a[1]));
        long before = now.harms.get(a[0]).insured();
        enter(5, a[0], a[1]);
        return now.harms.get(a[0]).insured() - before;
      }
      case "settle":
        need(1, in(a[0], 1, 9) && high(a[1]));
        enter(6, a[0], a[1]);
        return Arrays.stream(now.standing).filter(s -> s == 1).count();
      case "fall":
        need(1, in(a[0], 1, 9));
        enter(7, a[0]);
        return Arrays.stream(now.standing).filter(s -> s == 2).count();
      case "reopen": {
        harmThere(a[0]);
        long before = now.harms.get(a[0]).insured();
        enter(8, a[0]);
        return now.harms.get(a[0]).insured() - before;
      }
      default:
        if (events.isEmpty()) return -1;
        events.remove(events.size() - 1);
        now = over(events);
        return events.size();
    }
  }

  private static long bits(List<Integer> numbers) {
    long all = 0;
    for (int n : numbers) all |= 1L << n;
    return all;
  }

  private long seen(String name, int[] a) {
    switch (name) {
      case "told":
        need(1, in(a[0], 0, 10));
        List<Integer> found = new ArrayList<>();
        switch (a[0]) {
          case 0: return now.layers.size();
          case 1: return now.harms.size();
          case 2: return events.size();
          case 3: case 4: case 5: return now.rules[a[0] - 3];
          case 6: return bits(new ArrayList<>(now.lacks));
          case 7:
            for (int y = 0; y < 12; y++) if (now.gap(y)) found.add(y);
            return bits(found);
          case 8: case 9:
            for (int i = 1; i < 10; i++) if (now.standing[i] == a[0] - 7) found.add(i);
            return bits(found);
          default:
            for (Layer l : now.layers.values()) for (int[] s : l.signers) found.add(s[0]);
            return bits(found);
        }
      case "event":
        eventThere(a[0]);
        need(1, in(a[1], 0, 1));
        return a[1] == 0 ? events.get(a[0]).kind : events.get(a[0]).about;
      case "layer": {
        layerThere(a[0]);
        need(1, in(a[1], 0, 10));
        Layer l = now.layers.get(a[0]);
        return new long[] {l.year, l.from, l.size, l.times, now.used(a[0]), now.left(a[0]), now.hole(l), l.signers.size(),
          10 - l.signers.stream().mapToInt(s -> s[1]).sum(), now.of(l.year).indexOf(l), now.left(a[0]) == 0 ? 1 : 0}[a[1]];
      }
      case "signed": {
        layerThere(a[0]);
        need(1, a[1] >= 0 && in(a[2], 0, 2));
        Layer l = now.layers.get(a[0]);
        if (a[1] >= l.signers.size()) return -1;
        if (a[2] < 2) return l.signers.get(a[1])[a[2]];
        long all = 0;
        for (Harm h : now.harms.values()) if (h.had.containsKey(a[0])) all += h.had.get(a[0])[a[1]];
        return all;
      }
      case "year": {
        need(1, in(a[0], 0, 11) && in(a[1], 0, 6));
        List<Layer> tower = now.of(a[0]);
        long[] told = {tower.size(), -1, -1, 0, 0, 0, 0};
        for (Layer l : tower) {
          told[1] = told[1] < 0 ? l.from : told[1];
          told[2] = l.top();
          told[3] += l.size;
          told[4] += now.hole(l);
          told[5] += now.used(l.number);
          told[6] += now.left(l.number);
        }
        return told[a[1]];
      }
      case "at":
        need(1, in(a[0], 0, 11) && high(a[1]));
        return layerAt(a[0], a[1]);
      case "rung":
        need(1, in(a[0], 0, 11) && a[1] >= 0);
        return a[1] < now.of(a[0]).size() ? now.of(a[0]).get(a[1]).number : -1;
      default: {
        harmThere(a[0]);
        need(1, in(a[1], 0, 5));
        Harm h = now.harms.get(a[0]);
        return new long[] {h.first, h.last, h.shown, h.loss, h.insured(), h.grew}[a[1]];
      }
    }
  }

  private int layerAt(int year, int height) {
    int none = -2;
    for (Layer l : now.of(year)) {
      if (l.from <= height && height < l.top()) return l.number;
      if (l.from > height) none = -1;
    }
    return none;
  }

  private long borne(String name, int[] a) {
    switch (name) {
      case "took": case "hole": case "moved": {
        harmThere(a[0]);
        layerThere(a[1]);
        Harm h = now.harms.get(a[0]);
        return (name.equals("took") ? h.took : name.equals("hole") ? h.through : h.moved).getOrDefault(a[1], 0L);
      }
      case "bears":
        harmThere(a[0]);
        need(1, in(a[1], 0, 9));
        return a[1] == 0 ? now.harms.get(a[0]).insured() : now.harms.get(a[0]).borne[a[1]];
      case "falls":
        harmThere(a[0]);
        need(1, in(a[1], 0, 6));
        return now.harms.get(a[0]).reasons[a[1]];
      case "insurer": {
        need(1, in(a[0], 0, 9) && in(a[1], 0, 4));
        long layers = 0, left = 0;
        for (Layer l : now.layers.values()) {
          for (int[] s : l.signers) {
            if (s[0] == a[0]) {
              layers++;
              left += now.left(l.number) * s[1] / 10;
            }
          }
        }
        return new long[] {now.borne(a[0]), now.standing[a[0]], a[0] == 0 ? Arrays.stream(now.cash).sum() : now.cash[a[0]],
          layers, left}[a[1]];
      }
      case "burden":
        need(1, in(a[0], 0, 6));
        return now.harms.values().stream().mapToLong(h -> h.reasons[a[0]]).sum();
      default: {
        need(1, in(a[0], 0, 9));
        List<Integer> all = new ArrayList<>(List.of(0, 1, 2, 3, 4, 5, 6, 7, 8, 9));
        all.sort(Comparator.<Integer, Long>comparing(i -> -now.borne(i)));
        return all.get(a[0]);
      }
    }
  }

  private long imagined(String name, int[] a) {
    if (name.equals("takes") || name.equals("uneven")) layerThere(a[4]);
    need(1, years(a[0], a[1], a[2]));
    World w = now.forTrying();
    boolean lossTold = a.length == 5;
    if (lossTold) need(1, money(a[3]));
    Harm h = World.harmOf(24, a[0], a[1], a[2], lossTold ? a[3] : 1);
    w.harms.put(24, h);
    List<Integer> years = w.weighed(h);
    switch (name) {
      case "offs":
        need(1, in(a[3], 0, 3));
        return bits(w.setOff(h, a[3]));
      case "would":
        need(1, in(a[4], 0, 9));
        w.spread(h, a[3]);
        return a[4] == 0 ? h.insured() : h.borne[a[4]];
      case "takes":
        w.spread(h, a[3]);
        return h.took.getOrDefault(a[4], 0L);
      case "drops":
        need(1, in(a[4], 0, 6));
        w.spread(h, a[3]);
        return h.reasons[a[4]];
      case "share":
        need(1, in(a[4], 0, 11));
        return years.contains(a[4]) ? World.shares(a[3], World.alike(years)).get(years.indexOf(a[4])) : 0;
      case "weight":
        need(1, in(a[3], 0, 11));
        return years.contains(a[3]) ? w.sizeWeights(years).get(years.indexOf(a[3])) : 0;
      case "picks":
        need(1, a[3] >= 0);
        return a[3] < w.picked(h).size() ? w.picked(h).get(a[3]) : -1;
      default: {
        long fair = w.fair(h, a[3]).getOrDefault(a[4], 0L);
        return w.paid(h, a[3]).getOrDefault(a[4], 0L) - fair;
      }
    }
  }

  private long goneOver(String name, int[] a) {
    switch (name) {
      case "other":
        need(1, ruled(a[0], a[1], a[2]) && in(a[3], 0, 9));
        return byRules(a[0], a[1], a[2]).borne(a[3]);
      case "best": {
        need(1, in(a[0], 0, 9) && in(a[1], 0, 3));
        long[] found = null;
        for (int t = 0; t < 4; t++) {
          for (int s = 0; s < 4; s++) {
            for (int p = 0; p < 4; p++) {
              long b = byRules(t, s, p).borne(a[0]);
              if (found == null || b < found[3]) found = new long[] {t, s, p, b};
            }
          }
        }
        return found[a[1]];
      }
      case "without":
        eventThere(a[0]);
        need(1, in(a[1], 0, 9));
        return over(leavingOut(a[0])).borne(a[1]);
      case "undone": {
        eventThere(a[0]);
        World w = new World();
        int failed = 0;
        for (Event e : leavingOut(a[0])) if (!w.carryOut(e, false)) failed++;
        return failed;
      }
      case "spared":
        need(1, in(a[0], 1, 9));
        for (int k = 0; k < events.size(); k++) {
          if (events.get(k).kind == 6 && events.get(k).about == a[0]) {
            return over(leavingOut(k)).borne(a[0]) - now.borne(a[0]) - now.cash[a[0]];
          }
        }
        return 0;
      case "shift": {
        eventThere(a[0]);
        need(1, in(a[1], 0, events.size()) && in(a[2], 0, 9));
        List<Event> course = new ArrayList<>(events);
        course.add(a[1], events.get(a[0]));
        course.remove(a[0] >= a[1] ? a[0] + 1 : a[0]);
        return over(course).borne(a[2]);
      }
      case "after":
        eventThere(a[0]);
        need(1, in(a[1], 0, 9));
        return over(events.subList(0, a[0] + 1)).borne(a[1]);
      case "usedUp":
        layerThere(a[0]);
        for (int k = 0; k < events.size(); k++) {
          World w = over(events.subList(0, k + 1));
          if (w.layers.containsKey(a[0]) && w.left(a[0]) == 0) return k;
        }
        return -1;
      default: {
        need(1, in(a[0], 0, 9) && in(a[1], 0, 1));
        long harm = -1, least = 0;
        for (int h : now.harms.keySet()) {
          List<Event> course = new ArrayList<>(events);
          course.removeIf(e -> (e.kind == 4 || e.kind == 5 || e.kind == 8) && e.about == h);
          long b = over(course).borne(a[0]);
          if (harm < 0 || b < least) {
            harm = h;
            least = b;
          }
        }
        return a[1] == 0 ? harm : least;
      }
    }
  }

  private long lookedAt(String name, int[] a) {
    switch (name) {
      case "cover": {
        need(1, in(a[0], 0, 11) && high(a[1]) && high(a[2]) && a[1] <= a[2]);
        long all = 0;
        for (Layer l : now.of(a[0])) all += Math.max(0, Math.min(l.top(), a[2]) - Math.max(l.from, a[1]));
        return all;
      }
      case "reach": {
        layerThere(a[0]);
        if (now.left(a[0]) == 0) return -1;
        World w = now.forTrying();
        Layer l = now.layers.get(a[0]);
        Harm h = World.harmOf(24, 0, 0, 0, 1);
        w.harms.put(24, h);
        long low = 1, high = 1_000_000_001L;
        while (low < high) {
          long middle = (low + high) / 2;
          h.forget();
          w.fill(h, l.year, middle, new TreeMap<>());
          if (h.took.getOrDefault(a[0], 0L) > 0) high = middle;
          else low = middle + 1;
        }
        return low;
      }
      case "widest": {
        need(1, in(a[0], 0, 11) && in(a[1], 0, 1));
        int[] found = {-1, 0};
        for (Layer l : now.of(a[0])) if (now.hole(l) > found[1]) found = new int[] {l.number, now.hole(l)};
        return found[a[1]];
      }
      case "strongest": {
        need(1, in(a[0], 0, 1));
        long[] found = {-1, 0};
        for (int y = 0; y < 12; y++) {
          long left = now.of(y).stream().mapToLong(l -> now.left(l.number)).sum();
          if (left > found[1]) found = new long[] {y, left};
        }
        return found[a[0]];
      }
      case "holds": {
        need(1, in(a[0], 0, 9) && in(a[1], 0, 11) && high(a[2]));
        int l = layerAt(a[1], a[2]);
        int all = 0;
        if (l >= 0) for (int[] s : now.layers.get(l).signers) all += s[0] == a[0] ? s[1] : 0;
        return all;
      }
      case "spent": {
        List<Integer> found = new ArrayList<>();
        for (int l : now.layers.keySet()) if (now.left(l) == 0) found.add(l);
        return bits(found);
      }
      case "status":
        return in(a[0], 0, 2) ? refused[a[0]] : -1;
      default:
        throw new IllegalArgumentException(name);
    }
  }
}
