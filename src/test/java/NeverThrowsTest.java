import java.lang.reflect.InvocationTargetException;
import java.lang.reflect.Method;
import java.lang.reflect.Modifier;
import java.util.ArrayList;
import java.util.Arrays;
import java.util.Comparator;
import java.util.List;
import java.util.Random;

/** No call throws, whatever its arguments are and whatever was called before: drawn calls, many with numbers far off. */
public final class NeverThrowsTest {
  private static final int OBJECTS = 200, CALLS = 2000;
  private static final long[] FAR = {Integer.MIN_VALUE, Integer.MIN_VALUE + 1, Integer.MIN_VALUE + 10, Integer.MAX_VALUE, Integer.MAX_VALUE - 1,
      -1, -2, 32, 33, 40, 41, 120, 127, 128};
  private static final long[] FAR_LONGS = {Long.MIN_VALUE, Long.MIN_VALUE + 1, Long.MAX_VALUE, Long.MAX_VALUE - 1, 1L << 31, 1L << 32, 1L << 53, -1};
  private static final String SIGNS = "0123456789.=:<;-";

  private static Object argument(Random random, Class<?> type, boolean isLetter) {
    if (isLetter && random.nextInt(20) != 0) return (int) SIGNS.charAt(random.nextInt(SIGNS.length()));
    int way = random.nextInt(8);
    if (type == long.class) return way < 3 ? FAR_LONGS[random.nextInt(FAR_LONGS.length)] : way < 4 ? random.nextLong() : (long) random.nextInt(12);
    if (way == 0) return (int) FAR[random.nextInt(FAR.length)];
    return way == 1 ? random.nextInt(40) - 4 : random.nextInt(10);
  }

  public static void main(String[] args) throws IllegalAccessException {
    List<Method> calls = new ArrayList<>();
    for (Method method : ViewedBank.class.getDeclaredMethods()) if (Modifier.isPublic(method.getModifiers())) calls.add(method);
    // Reflection tells no order, and the same calls are to be drawn each time.
    calls.sort(Comparator.comparing(Method::getName));
    int wrong = 0;
    for (int seed = 0; seed < OBJECTS; seed++) {
      Random random = new Random(seed);
      ViewedBank bank = new ViewedBank();
      for (int k = 0; k < CALLS; k++) {
        Method call = calls.get(random.nextInt(calls.size()));
        Object[] given = new Object[call.getParameterCount()];
        for (int p = 0; p < given.length; p++) given[p] = argument(random, call.getParameterTypes()[p], call.getName().equals("feed"));
        try {
          call.invoke(bank, given);
        } catch (InvocationTargetException thrown) {
          wrong++;
          System.out.println("object " + seed + ", call " + k + ": " + call.getName() + Arrays.toString(given) + " threw " + thrown.getCause());
        }
      }
    }
    System.out.println(wrong == 0 ? OBJECTS * CALLS + " calls threw nothing" : wrong + " calls threw");
    if (wrong != 0) System.exit(1);
  }
}
