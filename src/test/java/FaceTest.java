import java.io.IOException;
import java.lang.reflect.Constructor;
import java.lang.reflect.Field;
import java.lang.reflect.Method;
import java.lang.reflect.Modifier;
import java.nio.file.Files;
import java.nio.file.Path;
import java.util.ArrayList;
import java.util.Arrays;
import java.util.List;
import java.util.TreeSet;
import java.util.stream.Collectors;

/** The public face is the document's, to the letter, and there is nothing beside it. */
public final class FaceTest {
  private static int wrong = 0;

  private static void due(String what, Object got, Object want) {
    if (!got.equals(want)) {
      wrong++;
      System.out.println(what + ": got " + got + ", due is " + want);
    }
  }

  public static void main(String[] args) throws IOException {
    due("the class is public and final", TallTowers.class.getModifiers(), Modifier.PUBLIC | Modifier.FINAL);
    due("NONE", TallTowers.NONE, -1);
    due("methods", methodsThere(), methodsDue());
    due("constructors", Arrays.stream(TallTowers.class.getDeclaredConstructors()).map(FaceTest::told)
        .collect(Collectors.toList()), List.of("public TallTowers()"));
    for (Field f : TallTowers.class.getDeclaredFields()) {
      boolean none = f.getName().equals("NONE");
      due("field " + f.getName() + " is public", Modifier.isPublic(f.getModifiers()), none);
      due("field " + f.getName() + " is private", Modifier.isPrivate(f.getModifiers()), !none);
      due("field " + f.getName() + " is final", Modifier.isFinal(f.getModifiers()), true);
    }
    TreeSet<String> faces = new TreeSet<>(Face.methods().keySet());
    for (Method m : TallTowers.class.getDeclaredMethods()) {
      if (!Modifier.isPublic(m.getModifiers())) {
        due(m.getName() + " is private", Modifier.isPrivate(m.getModifiers()), true);
        due(m.getName() + " bears the name of a public method", faces.contains(m.getName()), false);
      }
    }
    for (Class<?> c : TallTowers.class.getDeclaredClasses()) {
      due(c.getName() + " is static", Modifier.isStatic(c.getModifiers()), true);
      due(c.getName() + " is hidden", Modifier.isPublic(c.getModifiers()) || Modifier.isProtected(c.getModifiers()), false);
    }
    System.out.println("FaceTest: " + wrong + " wrong");
    if (wrong > 0) System.exit(1);
  }

  private static String told(Constructor<?> c) {
    return Modifier.toString(c.getModifiers()) + " " + c.getName() + "(" + types(c.getParameterTypes()) + ")";
  }

  private static String types(Class<?>[] types) {
    return Arrays.stream(types).map(Class::getSimpleName).collect(Collectors.joining(", "));
  }

  private static TreeSet<String> methodsThere() {
    TreeSet<String> all = new TreeSet<>();
    for (Method m : TallTowers.class.getDeclaredMethods()) {
      if (Modifier.isPublic(m.getModifiers())) {
        String thrown = types(m.getExceptionTypes());
        all.add(m.getReturnType() + " " + m.getName() + "(" + types(m.getParameterTypes()) + ")"
            + (thrown.isEmpty() ? "" : " throws " + thrown));
      }
    }
    return all;
  }

  /** Read from the document: the lines of its face, without the names of what is handed over. */
  private static TreeSet<String> methodsDue() throws IOException {
    TreeSet<String> all = new TreeSet<>();
    List<String> lines = new ArrayList<>(Files.readAllLines(Path.of("..", "shared", "DOC.md")));
    for (String line : lines.subList(lines.indexOf("```java"), lines.indexOf("## Terms"))) {
      String l = line.trim();
      if (l.matches("public (int|long) \\w+\\(.*;")) {
        all.add(l.substring("public ".length(), l.length() - 1).replaceAll("int \\w+(?=[,)])", "int"));
      }
    }
    return all;
  }
}
