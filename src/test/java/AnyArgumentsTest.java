import java.lang.reflect.InvocationTargetException;
import java.lang.reflect.Method;
import java.lang.reflect.Modifier;
import java.util.Arrays;
import java.util.Comparator;
import java.util.List;

/**
 * Rule 7: no call ever throws, for any arguments in any state. Every call with all of some odd arguments, on rolls that
 * are new, told much, told all that they can hold, and torn; what is answered is the other tests' matter.
 */
public final class AnyArgumentsTest {
  private static final int[] MANY = {Integer.MIN_VALUE, Integer.MIN_VALUE + 1, Integer.MIN_VALUE + 99,
      Integer.MIN_VALUE + 223, -1001, -1000, -100, -24, -2, -1, 0, 1, 2, 3, 4, 5, 6, 8, 9, 10, 11, 12, 15, 16, 20, 23, 24,
      25, 30, 60, 99, 100, 101, 111, 123, 124, 129, 130, 200, 223, 224, 300, 399, 400, 511, 512, 999, 1000, 9999, 10000,
      Integer.MAX_VALUE - 200, Integer.MAX_VALUE - 100, Integer.MAX_VALUE - 1, Integer.MAX_VALUE};
  private static final int[] SOME = {Integer.MIN_VALUE, -100, -1, 0, 1, 3, 5, 12, 100, 123, 1000, Integer.MAX_VALUE - 1,
      Integer.MAX_VALUE};
  private static final int[] FEW = {Integer.MIN_VALUE, -1, 0, 1, 3, 9, 100, Integer.MAX_VALUE};
  private static final long[] LONGS = {Long.MIN_VALUE, -1, 0, 9999, 10000, 999999999999L, 1000000000000L,
      Long.MAX_VALUE};

  private static long calls = 0;
  private static int thrown = 0;

  public static void main(String[] args) throws IllegalAccessException {
    int[] odd = {Integer.MIN_VALUE, -1, 0, 3, 4, 5, 6, 7, 12, 13, Integer.MAX_VALUE};
    for (int angles : odd) {
      for (int radii : odd) {
        new CharredRoll(angles, radii).best(0, 0);
      }
    }
    List<Method> methods = Arrays.stream(CharredRoll.class.getDeclaredMethods())
        .filter(m -> Modifier.isPublic(m.getModifiers())).sorted(Comparator.comparing(Method::getName)).toList();
    for (int state = 0; state < 5; state++) {
      for (Method m : methods) {
        all(roll(state), m, new Object[m.getParameterCount()], 0);
      }
      // One roll for all of them: the states that such calls themselves lead to, far beyond 512 of them.
      CharredRoll one = roll(state);
      for (Method m : methods) {
        all(one, m, new Object[m.getParameterCount()], 0);
      }
    }
    System.out.println(calls + " calls, " + thrown + " threw");
    if (thrown != 0) {
      System.exit(1);
    }
  }

  private static CharredRoll roll(int state) {
    switch (state) {
      case 0:
        return new CharredRoll(3, 4);
      case 1:
        return Rolls.some();
      case 2:
        return full(3, 12);
      case 3:
        return full(6, 4);
      default:
        CharredRoll x = full(4, 7);
        for (int slice = 0; slice < 6; slice++) {
          Rolls.tear(x, slice);
        }
        return x;
    }
  }

  /** As much of everything as there may be, but for pins, so that slices can be torn. */
  private static CharredRoll full(int angles, int radii) {
    CharredRoll x = new CharredRoll(angles, radii);
    for (int slice = 0; slice < 6; slice++) {
      x.wound(slice, 4);
      x.column(slice, slice % angles, 1212);
    }
    for (int i = 0; i < 60; i++) {
      x.step(i % radii);
      x.bit(i % 6, i / 6, i % 2 == 0, i % 4);
      x.letter(i * 8, 1 + i);
      x.word(i % 5, i % 3, i % 2, 1 + i);
      x.part(1 + i % 50, 1 + i, i % 4);
    }
    for (int i = 0; i < 4; i++) {
      Rolls.read(x, "ink grey=" + i + " or not (crack+1)*2>sharp/in and out-turn#-9999*9999*9999;");
      x.learnt(i, i);
    }
    for (int i = 0; i < 15; i++) {
      x.feed(0x28282828, 0x28282828, -1, Integer.MIN_VALUE, Integer.MAX_VALUE);
    }
    x.image();
    return x;
  }

  private static void all(CharredRoll x, Method m, Object[] arguments, int i) throws IllegalAccessException {
    if (i == arguments.length) {
      call(x, m, arguments);
      return;
    }
    Class<?> type = m.getParameterTypes()[i];
    if (type == boolean.class) {
      for (boolean b : new boolean[] {false, true}) {
        arguments[i] = b;
        all(x, m, arguments, i + 1);
      }
    } else if (type == long.class) {
      for (long n : LONGS) {
        arguments[i] = n;
        all(x, m, arguments, i + 1);
      }
    } else {
      for (int n : arguments.length < 3 ? MANY : arguments.length < 5 ? SOME : FEW) {
        arguments[i] = n;
        all(x, m, arguments, i + 1);
      }
    }
  }

  private static void call(CharredRoll x, Method m, Object[] arguments) throws IllegalAccessException {
    calls++;
    try {
      m.invoke(x, arguments);
    } catch (InvocationTargetException e) {
      thrown++;
      System.out.println(m.getName() + " " + Arrays.toString(arguments) + " threw " + e.getCause());
    }
  }
}
