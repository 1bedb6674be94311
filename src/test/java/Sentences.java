import java.lang.reflect.InvocationTargetException;
import java.lang.reflect.Method;
import java.util.ArrayList;
import java.util.Comparator;
import java.util.List;

/** Runs tests that stand for sentences of the document. */
final class Sentences {
  /** All classes that have such tests. */
  static final List<Class<?>> TESTS = List.of(
      CityTest.class, JoinsTest.class, WaysTest.class, BrakesTest.class, SeenTest.class, RefusalsTest.class);

  private Sentences() {}

  static List<Method> of(Class<?> tests) {
    List<Method> all = new ArrayList<>();
    for (Method m : tests.getDeclaredMethods()) {
      if (m.isAnnotationPresent(Sentence.class)) all.add(m);
    }
    all.sort(Comparator.comparing(Method::getName));
    return all;
  }

  static String told(Method test) {
    Sentence s = test.getAnnotation(Sentence.class);
    return s.in() + ", \"" + s.says() + "\"";
  }

  static void run(Class<?> tests) {
    for (Method test : of(tests)) {
      Check.standFor(told(test));
      int before = Check.askedSoFar();
      call(test);
      Check.holds(test.getName() + " looks at an answer", Check.askedSoFar() > before);
    }
    Check.end(tests.getSimpleName());
  }

  /** What the class under test throws is a wrong answer too. */
  static void call(Method test) {
    try {
      test.invoke(null);
    } catch (InvocationTargetException e) {
      Check.holds(test.getName() + " ends without " + e.getCause(), false);
    } catch (IllegalAccessException e) {
      Check.holds(test.getName() + " can be called", false);
    }
  }
}
