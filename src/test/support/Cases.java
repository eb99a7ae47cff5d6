import java.lang.reflect.InvocationTargetException;
import java.lang.reflect.Method;
import java.util.Map;
import java.util.TreeMap;

/** Runs every method of a test that bears a promise's number, or terms, in its name, so that none is left out. */
final class Cases {
  private Cases() { }

  static void run(Class<?> test) {
    Map<String, Method> cases = new TreeMap<>();
    for (Method m : test.getDeclaredMethods()) {
      if (m.getName().matches("(promise\\d\\d|terms\\d)_\\w+")) cases.put(m.getName(), m);
    }
    for (Method m : cases.values()) {
      try {
        m.invoke(null);
      } catch (InvocationTargetException e) {
        throw new IllegalStateException(m.getName(), e.getCause());
      } catch (IllegalAccessException e) {
        throw new IllegalStateException(m.getName(), e);
      }
    }
    System.out.println(test.getName() + ": " + cases.size() + " cases");
  }
}
