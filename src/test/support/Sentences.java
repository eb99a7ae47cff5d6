import java.util.ArrayList;
import java.util.List;
import java.util.Map;
import java.util.TreeMap;
import java.util.regex.Matcher;
import java.util.regex.Pattern;

/** Which sentences of the document have a test of their own; told are those that name an edge and have none. */
final class Sentences {
  /** What makes a sentence one of an edge: an exception, NONE, a number, or words of none, all, cut and left. */
  private static final Pattern EDGE = Pattern.compile("\\w+Exception|\\bNONE\\b|-?\\b\\d[\\d,]*\\b|\\bat (most|least|first)\\b|"
      + "\\bnone\\b|\\bnot so many\\b|\\bcut\\b|\\bby ones\\b|\\balike ones\\b|\\bsuch\\b|\\bbelow 0\\b|\\bcan't\\b|\\bif \\w+");

  private static final Map<Integer, List<String>> TESTED = new TreeMap<>();

  private Sentences() { }

  static void tested(int promise, String sentence) {
    TESTED.computeIfAbsent(promise, p -> new ArrayList<>()).add(sentence);
  }

  static List<String> untested() {
    List<String> found = new ArrayList<>();
    for (int promise = Doc.TERMS; promise <= Doc.PROMISES; promise++) {
      String part = Doc.part(promise);
      boolean[] covered = covered(part, TESTED.getOrDefault(promise, List.of()));
      Matcher edge = EDGE.matcher(part);
      while (edge.find()) {
        // The numbers of the Terms' parts are none of these.
        boolean heading = edge.start() >= 5 && part.startsWith("==== ", edge.start() - 5);
        if (!heading && (!covered[edge.start()] || !covered[edge.end() - 1])) {
          String near = part.substring(Math.max(0, edge.start() - 40), Math.min(part.length(), edge.end() + 40)).replace('\n', ' ');
          found.add((promise == Doc.TERMS ? "terms" : "promise " + promise) + ": no test of '" + edge.group() + "' in: .." + near + "..");
        }
      }
    }
    return found;
  }

  private static boolean[] covered(String part, List<String> tested) {
    boolean[] covered = new boolean[part.length()];
    for (String sentence : tested) {
      for (int at = part.indexOf(sentence); at >= 0; at = part.indexOf(sentence, at + 1)) {
        for (int i = at; i < at + sentence.length(); i++) covered[i] = true;
      }
    }
    return covered;
  }
}
