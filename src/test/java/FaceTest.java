import java.lang.reflect.Constructor;
import java.lang.reflect.Field;
import java.lang.reflect.Method;
import java.lang.reflect.Modifier;
import java.util.ArrayList;
import java.util.Arrays;
import java.util.List;

/** The face is the document's and no more; no call throws by itself, whatever it is given. */
public final class FaceTest {
  private static final String[] FACE = {
    "int school(int)", "int pupil(int, int)", "int locker(int, int)", "int joins(int, int)",
    "int stands(int, int)", "int moves(int, int)", "int changes(int, int)", "int loses(int)",
    "int makes(int)", "int bears(int, int)", "int trouble(int, int)", "int content(int)",
    "int clashes(int)", "int rather(int)", "int best(int)", "int rests(int)", "int placed()",
    "int placedAt(int)", "int agreed()", "int agreedContent()", "int list(int)", "int alone(int)",
    "int price(int)", "int otherwise(int)", "int hours(int)", "int envy(int)",
    "long gone(int, int, int, int)", "int dent(int, int, int)", "int turn(int)", "int widowed(int)",
    "int june(int, int)", "int forged(int)", "int judge(int)", "int terms(int, int, int)", "int image()",
    "int restore()", "int count(int)", "int all()", "int keep(int, int, int, int)", "int row(int, int, int)",
    "int put(int, int, int)", "long element(int, int)", "int copy(int, int, int, int, int)", "int cost(int)",
    "int toss(int)"};

  private static final int[] EDGES = {
    Integer.MIN_VALUE, Integer.MIN_VALUE + 1, -10000, -2, -1, 0, 1, 2, 3, 4, 5, 6, 7, 8, 9, 10, 20, 21, 99, 100, 101,
    999, 1000, Integer.MAX_VALUE - 1, Integer.MAX_VALUE};

  /** An object is used for at most 512 calls; the others prepare it. */
  private static final int CALLS_OF_ONE = 380;

  public static void main(String[] args) throws Exception {
    face();
    for (String school : new String[] {
        "", "p000;", "l00;", "p530;p150;p020;l31;m00;m10;k0;k0;",
        "p050;p150;p250;p350;p450;p550;p650;p750;l00;l31;l60;l91;l20;m00;m10;m21;m31;m42;m52;m63;"}) {
      edges(school);
    }
    Check.end();
  }

  private static void face() {
    List<String> found = new ArrayList<>();
    List<String> publicNames = new ArrayList<>();
    for (Method m : TwoToALocker.class.getDeclaredMethods()) {
      if (!Modifier.isPrivate(m.getModifiers())) {
        found.add(signature(m));
        publicNames.add(m.getName());
        Check.due(m.getName() + " is just public", m.getModifiers(), Modifier.PUBLIC);
      }
    }
    for (Method m : TwoToALocker.class.getDeclaredMethods()) {
      if (Modifier.isPrivate(m.getModifiers())) {
        Check.due(m.getName() + " bears no public name", publicNames.contains(m.getName()) ? 1 : 0, 0);
      }
    }
    for (Class<?> inside : TwoToALocker.class.getDeclaredClasses()) {
      for (Method m : inside.getDeclaredMethods()) {
        if (Modifier.isPrivate(m.getModifiers())) {
          Check.due(m.getName() + " inside bears no public name", publicNames.contains(m.getName()) ? 1 : 0, 0);
        }
      }
    }
    for (String one : FACE) {
      Check.due("there is " + one, found.remove(one) ? 1 : 0, 1);
    }
    Check.due("no other member: " + found, found.size(), 0);
    for (Field f : TwoToALocker.class.getDeclaredFields()) {
      Check.due(f.getName() + " is private", Modifier.isPrivate(f.getModifiers()) ? 1 : 0, 1);
    }
    Constructor<?>[] constructors = TwoToALocker.class.getDeclaredConstructors();
    Check.due("one constructor", constructors.length, 1);
    Check.due("it is public", constructors[0].getModifiers(), Modifier.PUBLIC);
    Check.due("public and final", TwoToALocker.class.getModifiers(), Modifier.PUBLIC | Modifier.FINAL);
    for (Class<?> inside : TwoToALocker.class.getDeclaredClasses()) {
      Check.due(inside + " is static", Modifier.isStatic(inside.getModifiers()) ? 1 : 0, 1);
    }
  }

  private static String signature(Method m) {
    String parameters = Arrays.toString(m.getParameterTypes());
    return m.getReturnType() + " " + m.getName() + "(" + parameters.substring(1, parameters.length() - 1) + ")";
  }

  private static void edges(String school) throws Exception {
    for (Method m : TwoToALocker.class.getMethods()) {
      if (m.getDeclaringClass() == TwoToALocker.class) {
        TwoToALocker x = prepared(school);
        int calls = 0;
        int[] at = new int[m.getParameterCount()];
        while (calls < 4000) {
          call(x, m, at, calls);
          calls++;
          if (calls % CALLS_OF_ONE == 0) {
            x = prepared(school);
          }
          if (!next(at, m.getParameterCount() > 2 ? 1 + calls * 7 : 1)) {
            break;
          }
        }
      }
    }
  }

  private static TwoToALocker prepared(String school) {
    TwoToALocker x = Check.school(school);
    Check.shelve(x, 0, "p000;l00;");
    Check.shelve(x, 1, 1, 9, 0, 9);
    Check.shelve(x, 2, 2, Integer.MIN_VALUE, Integer.MAX_VALUE);
    x.keep(3, 1, 4, 9);
    x.keep(4, 1, 5, 0);
    return x;
  }

  /** Goes on by a step in the numbers that the places spell; false behind the last. */
  private static boolean next(int[] at, int step) {
    int carry = step;
    for (int i = 0; i < at.length; i++) {
      carry += at[i];
      at[i] = carry % EDGES.length;
      carry /= EDGES.length;
    }
    return at.length > 0 && carry == 0;
  }

  private static void call(TwoToALocker x, Method m, int[] at, int calls) throws Exception {
    Object[] arguments = new Object[at.length];
    for (int i = 0; i < at.length; i++) {
      arguments[i] = EDGES[at[i]];
    }
    int thrown = 0;
    try {
      m.invoke(x, arguments);
    } catch (java.lang.reflect.InvocationTargetException e) {
      Class<?> what = e.getCause().getClass();
      boolean told = what == IllegalArgumentException.class || what == IllegalStateException.class;
      thrown = m.getName().equals("element") && told ? 0 : 1;
    }
    Check.due(m.getName() + Arrays.toString(arguments) + " throws nothing by itself", thrown, 0);
  }
}
