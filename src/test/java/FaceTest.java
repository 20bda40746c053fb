import java.lang.reflect.Constructor;
import java.lang.reflect.Field;
import java.lang.reflect.Method;
import java.lang.reflect.Modifier;
import java.util.NoSuchElementException;
import java.util.Set;
import java.util.TreeSet;

/** The public face is the document's and nothing more, and no call throws by itself. */
public final class FaceTest {
  private static final String FACE =
      "int feed(int, int, int, int, int)|int orders(int, int)|int fault(int)|int land(int)|"
          + "boolean near(int, int)|int state(int, int)|boolean hold(int, int)|"
          + "boolean claim(int, int, boolean)|boolean worth(int, int, int)|"
          + "boolean bound(int, int)|int offer(int, int, int, int, int, int)|"
          + "int note(int, int, int)|boolean spy(int, int, int, int)|int days(int)|"
          + "int paper(int, int)|int why(int)|long tries(int, int)|int known(int, int)|"
          + "int heard(int, int, int)|int has(int)|int settle(int)|int best(int)|"
          + "int without(int, int)|int core()|int judge(int)|int swap(int)|int article()|"
          + "int draft(int, int, int)|boolean hang(int, int, boolean)|"
          + "boolean reserve(int, int, boolean)|int distance(int, int, int)|int laid(int, int)|"
          + "int word(int, int, int)|int leave(int)|int way(int, int, int)|int look(int, int)|"
          + "int count(int)";
  private static int wrong = 0;

  public static void main(String[] args) throws Exception {
    face();
    oddNumbers();
    System.out.println(wrong == 0 ? "the face is as due" : wrong + " faults in the face");
    if (wrong != 0) {
      System.exit(1);
    }
  }

  private static void check(boolean ok, String what) {
    if (!ok) {
      wrong++;
      System.out.println("not as due: " + what);
    }
  }

  private static String line(Method m) {
    StringBuilder sb = new StringBuilder(m.getReturnType().getName());
    sb.append(' ').append(m.getName()).append('(');
    for (int k = 0; k < m.getParameterCount(); k++) {
      sb.append(k > 0 ? ", " : "").append(m.getParameterTypes()[k].getName());
    }
    return sb.append(')').toString();
  }

  private static void face() throws Exception {
    Class<?> c = PowersHouse.class;
    check(Modifier.isPublic(c.getModifiers()) && Modifier.isFinal(c.getModifiers()), "the class");
    Set<String> want = new TreeSet<>(Set.of(FACE.split("\\|")));
    Set<String> names = new TreeSet<>();
    Set<String> got = new TreeSet<>();
    for (Method m : c.getDeclaredMethods()) {
      if (!Modifier.isPrivate(m.getModifiers())) {
        check(Modifier.isPublic(m.getModifiers()), "not private: " + m);
        check(!Modifier.isStatic(m.getModifiers()), "static: " + m);
        got.add(line(m));
        names.add(m.getName());
      }
    }
    check(got.equals(want), "the methods: " + got);
    for (Method m : c.getDeclaredMethods()) {
      check(!Modifier.isPrivate(m.getModifiers()) || !names.contains(m.getName()), "name " + m);
    }
    for (Field f : c.getDeclaredFields()) {
      boolean isNone = f.getName().equals("NONE");
      check(Modifier.isPrivate(f.getModifiers()) != isNone, "field " + f);
      check(!Modifier.isStatic(f.getModifiers()) || Modifier.isFinal(f.getModifiers()), "" + f);
    }
    check(Modifier.isPublic(c.getField("NONE").getModifiers()), "NONE is public");
    check(c.getDeclaredConstructors().length == 1, "one constructor");
    for (Constructor<?> k : c.getDeclaredConstructors()) {
      check(Modifier.isPublic(k.getModifiers()) && k.getParameterCount() == 0, "constructor");
    }
    for (Class<?> inner : c.getDeclaredClasses()) {
      check(Modifier.isStatic(inner.getModifiers()), "static: " + inner);
      check(!Modifier.isPublic(inner.getModifiers()), "not public: " + inner);
      for (Method m : inner.getDeclaredMethods()) {
        check(!names.contains(m.getName()), "a name of the face: " + m);
      }
    }
  }

  /** Every call with numbers from far outside, in an empty house and in a full one. */
  private static void oddNumbers() throws Exception {
    int[] odd = {Integer.MIN_VALUE, -2147483647, -13, -2, -1, 0, 1, 5, 6, 7, 8, 11, 12, 13, 31, 32,
        59, 60, 63, 64, 99, 100, 300, 301, 999, 4095, 65536, 1 << 30, Integer.MAX_VALUE};
    for (Method m : PowersHouse.class.getDeclaredMethods()) {
      if (!Modifier.isPublic(m.getModifiers())) {
        continue;
      }
      for (int full = 0; full < 2; full++) {
        PowersHouse x = new PowersHouse();
        if (full == 1) {
          fill(x);
        }
        for (int n = 0; n < 400; n++) {
          callOdd(x, m, odd, n);
        }
      }
    }
  }

  private static void callOdd(PowersHouse x, Method m, int[] odd, int n) throws Exception {
    Object[] a = new Object[m.getParameterCount()];
    long seed = n * 2654435761L + 12345;
    for (int k = 0; k < a.length; k++) {
      seed = seed * 6364136223846793005L + 1442695040888963407L;
      int pick = (int) ((seed >>> 33) % odd.length);
      a[k] = m.getParameterTypes()[k] == boolean.class ? (Object) (pick % 2 == 0) : odd[pick];
    }
    try {
      m.invoke(x, a);
    } catch (java.lang.reflect.InvocationTargetException e) {
      Throwable t = e.getCause();
      boolean told = m.getName().equals("look")
          && (t.getClass() == IndexOutOfBoundsException.class
              || t.getClass() == NoSuchElementException.class);
      check(told, m.getName() + java.util.Arrays.toString(a) + " throws " + t);
    }
  }

  private static void fill(PowersHouse x) {
    for (int k = 0; k < 12; k++) {
      x.land(9999);
    }
    for (int k = 0; k < 6; k++) {
      x.state(99, 9);
      x.bound(k, 50);
    }
    for (int k = 0; k < 12; k++) {
      x.hold(k, k % 6);
      for (int s = 0; s < 6; s++) {
        x.worth(s, k, 99 - (7 * s + 5 * k) % 50);
      }
      for (int s = 0; s < 3 && k < 8; s++) {
        x.claim(k, (k + s) % 6, true);
      }
    }
    for (int k = 0; k < 40; k++) {
      x.offer(k % 6, (k + 1) % 6, 1 << k % 12, 0, 200, k > 0 && k % 3 != 0 ? k - 1 : -1);
    }
    for (int k = 0; k < 8; k++) {
      x.article();
      for (int s = 0; s < 6; s++) {
        for (int w = 0; w < 8; w++) {
          x.draft(k, s, 1 + (w * (s + 1)) % 5);
        }
      }
    }
    x.feed(0x74616b65, 0x20312020, 0x20202020, 0x20202020, 0x2020203b);
    x.orders(20, 0);
  }
}
