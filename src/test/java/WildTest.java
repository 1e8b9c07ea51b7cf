import java.lang.reflect.InvocationTargetException;
import java.lang.reflect.Method;
import java.lang.reflect.Modifier;
import java.util.ArrayList;
import java.util.Comparator;
import java.util.List;
import java.util.Random;

/** Any call with any arguments in any state: none may throw, and the same calls give the same answers. */
final class WildTest {
  private static final Check CHECK = new Check("WildTest");
  private static final int RUNS = 1000, CALLS = 512;
  private static final int[] ODD = {
    -1, -2, 8, 9, 10, 13, 14, 19, 20, 21, 30, 31, 32, 39, 40, 41, 240, 241, -100, 1 << 16, 1 << 30,
    Integer.MIN_VALUE, Integer.MIN_VALUE + 1, Integer.MAX_VALUE - 1, Integer.MAX_VALUE
  };
  private static final List<Method> FACE = new ArrayList<>();

  static void run() throws IllegalAccessException {
    for (Method method : CrossBook.class.getDeclaredMethods()) {
      if (Modifier.isPublic(method.getModifiers())) {
        FACE.add(method);
      }
    }
    // the machine tells them in no order of its own, and the lot needs one
    FACE.sort(Comparator.comparing(Method::getName));
    for (int seed = 0; seed < RUNS; seed++) {
      oneRun(seed);
    }
  }

  private static void oneRun(int seed) throws IllegalAccessException {
    Random lot = new Random(seed);
    CrossBook book = new CrossBook();
    CrossBook twin = new CrossBook();
    for (int call = 0; call < CALLS; call++) {
      Method method = FACE.get(lot.nextInt(FACE.size()));
      Object[] arguments = arguments(method, lot);
      try {
        if (!method.invoke(book, arguments).equals(method.invoke(twin, arguments))) {
          CHECK.yes("run " + seed + ", call " + call + ": " + method.getName() + " answers otherwise", false);
          return;
        }
      } catch (InvocationTargetException e) {
        CHECK.yes("run " + seed + ", call " + call + ": " + method.getName() + " threw " + e.getCause(), false);
        return;
      }
    }
    CHECK.yes("run " + seed, true);
  }

  private static Object[] arguments(Method method, Random lot) {
    Class<?>[] types = method.getParameterTypes();
    Object[] arguments = new Object[types.length];
    for (int i = 0; i < types.length; i++) {
      if (types[i] == long.class) {
        arguments[i] = lot.nextLong();
      } else if (types[i] == boolean.class) {
        arguments[i] = lot.nextBoolean();
      } else {
        arguments[i] = lot.nextInt(5) == 0 ? ODD[lot.nextInt(ODD.length)] : lot.nextInt(8);
      }
    }
    return arguments;
  }
}
