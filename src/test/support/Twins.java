import java.util.ArrayList;
import java.util.Collections;
import java.util.List;

/**
 * Two new objects with the same calls done on both; then one of them has some more, which must change nothing but how
 * many were refused. No object has more than 512 calls: what there is to look at is looked at in turns, on new twins.
 */
final class Twins {
  private static final int CALLS = 512;
  private static final String[] NAMES = {"NoSuchElementException", "IllegalArgumentException", "IllegalStateException"};

  private final List<String> done;
  private final List<String> more;
  private final List<String> faults = new ArrayList<>();

  private Twins(List<String> done, List<String> more) {
    this.done = done;
    this.more = more;
  }

  /** What is not as it was but for these calls more; nothing, if all is well. */
  static List<String> faults(List<String> done, String... more) {
    Twins twins = new Twins(done, List.of(more));
    twins.look();
    return twins.faults;
  }

  private void look() {
    TallTowers plain = desk(false);
    List<String> looks = Looks.at(plain.told(0), plain.told(1), plain.told(2));
    int room = CALLS - done.size() - more.size();
    if (room < 10) throw new IllegalStateException("a run of too many calls");
    for (int from = 0; from < looks.size() && faults.size() < 3; from += room) {
      compare(looks.subList(from, Math.min(from + room, looks.size())));
    }
    List<String> goingOn = Looks.goingOn();
    compare(goingOn.subList(0, Math.min(room, goingOn.size())));
    counts();
  }

  private TallTowers desk(boolean withMore) {
    TallTowers x = new TallTowers();
    for (String call : done) Face.call(x, Face.nameOf(call), Face.argsOf(call));
    if (withMore) for (String call : more) Face.call(x, Face.nameOf(call), Face.argsOf(call));
    return x;
  }

  private void compare(List<String> looks) {
    TallTowers plain = desk(false);
    TallTowers other = desk(true);
    for (String look : looks) {
      String due = Face.call(plain, Face.nameOf(look), Face.argsOf(look));
      String got = Face.call(other, Face.nameOf(look), Face.argsOf(look));
      if (!got.equals(due)) faults.add(more + " changed " + look + " from " + due + " to " + got);
    }
  }

  /** The calls done were none that is refused, so all that is counted comes of those more. */
  private void counts() {
    TallTowers x = desk(false);
    List<String> answers = new ArrayList<>();
    for (String call : more) answers.add(Face.call(x, Face.nameOf(call), Face.argsOf(call)));
    for (int what = 0; what < NAMES.length; what++) {
      int due = Collections.frequency(answers, "throws." + NAMES[what]);
      if (x.status(what) != due) faults.add(more + " left status(" + what + ") at " + x.status(what) + ", due is " + due);
    }
  }
}
