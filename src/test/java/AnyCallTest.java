import java.lang.reflect.Method;
import java.util.ArrayList;
import java.util.List;
import java.util.Random;

/**
 * Any calls in any order with any arguments: each ends, throws nothing but what its line of the face names, is counted
 * if it was refused, and leaves every loss borne to the last one.
 */
public final class AnyCallTest {
  private static final int[] EDGES = {Integer.MIN_VALUE, Integer.MIN_VALUE + 1, -2, -1, 0, 1, 2, 3, 4, 5, 6, 7, 8, 9, 10, 11, 12,
    23, 24, 39, 40, 159, 160, 161, 899999999, 900000000, 900000001, 99999999, 100000000, 100000001, 1000000000, 1000000001,
    2000000000, Integer.MAX_VALUE - 1, Integer.MAX_VALUE};
  private static int wrong = 0;

  public static void main(String[] args) {
    for (int seed = 0; seed < 300; seed++) run(new Random(seed), seed);
    System.out.println("AnyCallTest: " + wrong + " wrong");
    if (wrong > 0) System.exit(1);
  }

  private static void run(Random random, int seed) {
    TallTowers x = new TallTowers();
    List<Method> methods = new ArrayList<>(Face.methods().values());
    int[] refused = new int[3];
    boolean wild = seed % 3 == 0;
    for (int i = 0; i < 512; i++) {
      Method m = random.nextInt(3) == 0 ? methods.get(random.nextInt(methods.size()))
          : Face.methods().get(List.of("place", "sign", "harm", "grow", "rules", "reopen").get(random.nextInt(6)));
      int[] with = new int[m.getParameterCount()];
      for (int k = 0; k < with.length; k++) with[k] = argument(random, wild);
      String got = Face.call(x, m.getName(), with);
      if (got.startsWith("throws.")) {
        boolean named = false;
        for (Class<?> t : m.getExceptionTypes()) named |= got.equals("throws." + t.getSimpleName());
        if (!named) tell(seed, m.getName() + java.util.Arrays.toString(with) + " answered " + got);
        refused[got.contains("NoSuch") ? 0 : got.contains("Argument") ? 1 : 2]++;
      }
    }
    for (int what = 0; what < 3; what++) if (x.status(what) != refused[what]) tell(seed, "status(" + what + ")");
    allIsBorne(x, seed);
  }

  private static int argument(Random random, boolean wild) {
    int r = random.nextInt(wild ? 4 : 12);
    if (r == 0) return EDGES[random.nextInt(EDGES.length)];
    if (r == 1) return random.nextInt();
    if (r == 2) return random.nextInt(1000000001);
    return random.nextInt(r < 6 ? 4 : 11);
  }

  private static void allIsBorne(TallTowers x, int seed) {
    long[] used = new long[40];
    for (int h = 0; h < x.told(1); h++) {
      long borne = 0;
      long fallen = 0;
      for (int i = 0; i < 10; i++) borne += x.bears(h, i);
      for (int r = 0; r < 7; r++) fallen += x.falls(h, r);
      long given = 0;
      for (int l = 0; l < x.told(0); l++) {
        used[l] += x.took(h, l);
        given += x.moved(h, l);
        if (x.took(h, l) < 0 || x.took(h, l) > x.layer(l, 2) || x.hole(h, l) < 0) tell(seed, "took, hole " + h + " " + l);
      }
      if (borne != x.damage(h, 3)) tell(seed, "a loss of " + x.damage(h, 3) + ", borne " + borne);
      if (fallen != x.bears(h, 0) || fallen != x.damage(h, 4)) tell(seed, "reasons of harm " + h);
      if (given != 0) tell(seed, "moved of harm " + h);
    }
    for (int l = 0; l < x.told(0); l++) {
      if (used[l] != x.layer(l, 4) || x.layer(l, 5) < 0) tell(seed, "used of layer " + l);
    }
  }

  private static void tell(int seed, String what) {
    wrong++;
    System.out.println("seed " + seed + ": " + what);
  }
}
