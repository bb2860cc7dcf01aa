import java.lang.reflect.InvocationTargetException;
import java.lang.reflect.Method;
import java.util.Arrays;

/** Calls of the face by name, for tests that are tables, and all that can be seen of an object. */
final class Face {
  /** Answers of a call that throws, far from all that a call can answer. */
  static final long THROWS_IAE = Long.MIN_VALUE + 1;
  static final long THROWS_ISE = Long.MIN_VALUE + 2;
  static final long THROWS_ANOTHER = Long.MIN_VALUE + 3;

  private Face() {
  }

  static long call(TwoToALocker x, String name, int... arguments) {
    Object[] boxed = Arrays.stream(arguments).boxed().toArray();
    try {
      return ((Number) method(name).invoke(x, boxed)).longValue();
    } catch (InvocationTargetException e) {
      Class<?> thrown = e.getCause().getClass();
      return thrown == IllegalArgumentException.class ? THROWS_IAE
          : thrown == IllegalStateException.class ? THROWS_ISE : THROWS_ANOTHER;
    } catch (IllegalAccessException e) {
      throw new AssertionError(name, e);
    }
  }

  /** Looks at one call's answer. */
  static void due(TwoToALocker x, long want, String name, int... arguments) {
    Check.due(text(name, arguments), call(x, name, arguments), want);
  }

  private static Method method(String name) {
    for (Method one : TwoToALocker.class.getMethods()) {
      if (one.getName().equals(name) && one.getDeclaringClass() == TwoToALocker.class) {
        return one;
      }
    }
    throw new AssertionError("no call " + name);
  }

  /** All that can be seen of the school. */
  static String school(TwoToALocker x) {
    StringBuilder seen = new StringBuilder();
    for (int what = 0; what <= 5; what++) {
      seen.append(x.count(what)).append(what < 5 ? "," : "");
    }
    for (int p = 0; p < x.count(0); p++) {
      seen.append(" p");
      for (int what = 0; what <= 3; what++) {
        seen.append(x.pupil(p, what));
      }
    }
    for (int l = 0; l < x.count(1); l++) {
      seen.append(" l");
      for (int what = 0; what <= 2; what++) {
        seen.append(x.locker(l, what));
      }
    }
    return seen.toString();
  }

  /** What the shelves hold. */
  static String shelves(TwoToALocker x) {
    StringBuilder seen = new StringBuilder();
    for (int d = 0; d < 8; d++) {
      seen.append(shelf(x, d));
      for (int e = 0; e < d; e++) {
        // rows of one sort, and just those, could be copied
        seen.append(x.copy(d, 0, e, 0, 0) == 0 ? "+" : "-");
      }
    }
    return seen.toString();
  }

  static String shelf(TwoToALocker x, int d) {
    StringBuilder seen = new StringBuilder(" d" + x.cost(d) + "/" + x.toss(d) + "/");
    for (int i = 0; i <= 100; i++) {
      long element = call(x, "element", d, i);
      if (element == THROWS_ISE) {
        break;
      }
      seen.append(" ").append(element);
    }
    return seen.toString();
  }

  static String text(String name, int... arguments) {
    String list = Arrays.toString(arguments);
    return name + "(" + list.substring(1, list.length() - 1) + ")";
  }
}
