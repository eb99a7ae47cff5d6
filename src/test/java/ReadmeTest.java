import java.io.IOException;
import java.nio.file.Files;
import java.nio.file.Path;
import java.util.HashMap;
import java.util.List;
import java.util.Map;
import java.util.regex.Matcher;
import java.util.regex.Pattern;
import java.util.stream.Stream;

/** README.md holds what it says: its examples are run, and no call of the face and no test is left out of it. */
public final class ReadmeTest {
  private static final Pattern CALL = Pattern.compile(
      "(?:int (?<name>\\w+) = )?desk\\.(?<call>\\w+)\\((?<args>[^)]*)\\);\\s*// (?:(?<answer>-?\\d+)|(?<thrown>throws \\w+)).*");
  private static final int FEWEST_CALLS = 40;

  private static int wrong = 0;
  private static int calls = 0;

  public static void main(String[] args) throws IOException {
    String text = Files.readString(Path.of("README.md"));
    runExamples(text.split("\n"));
    need(calls >= FEWEST_CALLS, "only " + calls + " calls were found in the examples");
    for (String name : Face.methods().keySet()) need(text.contains("`" + name + "()`"), "README.md does not name " + name + "()");
    namesTests(text, Path.of("src", "test", "java"));
    System.out.println("ReadmeTest: " + calls + " calls, " + wrong + " wrong");
    if (wrong > 0) System.exit(1);
  }

  private static void runExamples(String[] lines) {
    boolean inside = false;
    TallTowers desk = null;
    Map<String, String> numbers = new HashMap<>();
    for (String line : lines) {
      if (line.startsWith("```")) {
        inside = line.equals("```java");
      } else if (inside && line.equals("TallTowers desk = new TallTowers();")) {
        desk = new TallTowers();
        numbers.clear();
      } else if (inside) {
        runLine(desk, numbers, line);
      }
    }
  }

  private static void runLine(TallTowers desk, Map<String, String> numbers, String line) {
    Matcher m = CALL.matcher(line);
    if (desk == null || !m.matches()) {
      need(false, "this line can't be run: " + line);
      return;
    }
    calls++;
    String args = m.group("args");
    for (Map.Entry<String, String> e : numbers.entrySet()) args = args.replaceAll("\\b" + e.getKey() + "\\b", e.getValue());
    String due = m.group("answer") != null ? m.group("answer") : m.group("thrown").replace(' ', '.');
    String got = Face.call(desk, m.group("call"), Face.argsOf("(" + args + ")"));
    need(got.equals(due), line + " answered " + got);
    if (m.group("name") != null) numbers.put(m.group("name"), got);
  }

  private static void namesTests(String text, Path folder) throws IOException {
    try (Stream<Path> files = Files.list(folder)) {
      List<String> tests = files.map(f -> f.getFileName().toString()).sorted().toList();
      for (String test : tests) need(text.contains(test), "README.md does not name " + test);
    }
    Matcher named = Pattern.compile("(\\w+Test\\.java)").matcher(text);
    while (named.find()) need(Files.exists(folder.resolve(named.group(1))), "there is no " + named.group(1));
  }

  private static void need(boolean holds, String what) {
    if (!holds) {
      wrong++;
      System.out.println(what);
    }
  }
}
