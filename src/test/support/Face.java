import java.lang.reflect.InvocationTargetException;
import java.lang.reflect.Method;
import java.util.Map;
import java.util.NoSuchElementException;
import java.util.TreeMap;

/** Calls of TallTowers by their names; an answer is a number, or the name of what was thrown. */
final class Face {
  private static final Map<String, Method> METHODS = new TreeMap<>();

  static {
    for (Method m : TallTowers.class.getDeclaredMethods()) {
      if (java.lang.reflect.Modifier.isPublic(m.getModifiers())) METHODS.put(m.getName(), m);
    }
  }

  static Map<String, Method> methods() {
    return METHODS;
  }

  static String call(TallTowers x, String name, int... args) {
    Object[] boxed = new Object[args.length];
    for (int i = 0; i < args.length; i++) boxed[i] = args[i];
    try {
      return String.valueOf(((Number) METHODS.get(name).invoke(x, boxed)).longValue());
    } catch (InvocationTargetException e) {
      return "throws." + e.getCause().getClass().getSimpleName();
    } catch (IllegalAccessException e) {
      throw new IllegalStateException(e);
    }
  }

  static String call(Model x, String name, int... args) {
    try {
      return String.valueOf(x.call(name, args));
    } catch (Model.Refused r) {
      return "throws." + new String[] {NoSuchElementException.class.getSimpleName(),
        IllegalArgumentException.class.getSimpleName(), IllegalStateException.class.getSimpleName()}[r.kind];
    }
  }

  /** Reads "name(1, 2)". */
  static String nameOf(String call) {
    return call.substring(0, call.indexOf('('));
  }

  static int[] argsOf(String call) {
    String inside = call.substring(call.indexOf('(') + 1, call.indexOf(')')).trim();
    if (inside.isEmpty()) return new int[0];
    String[] parts = inside.split(",");
    int[] args = new int[parts.length];
    for (int i = 0; i < parts.length; i++) args[i] = Integer.parseInt(parts[i].trim());
    return args;
  }
}
