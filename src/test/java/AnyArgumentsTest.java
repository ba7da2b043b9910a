import java.lang.reflect.Method;
import java.lang.reflect.Modifier;
import java.util.ArrayList;
import java.util.Comparator;
import java.util.List;
import java.util.Random;

/** No call throws, whatever its arguments and whatever was called ahead of it. */
public final class AnyArgumentsTest {
  private static final int RUNS = 400;
  private static final int CALLS = 512;
  private static final int[] EDGES = {
    Integer.MIN_VALUE, Integer.MIN_VALUE + 1, -1048576, -33, -32, -31, -2, -1, 0, 1, 2, 3, 4, 5, 6, 7, 8, 9,
    10, 11, 19, 20, 21, 24, 25, 31, 32, 33, 40, 41, 60, 61, 280, 281, 300, 301, 1023, 2047, 2931, 9999, 10000,
    (1 << 20) - 1, 1 << 20, (1 << 20) + 1, 1 << 30, Integer.MAX_VALUE - 60, Integer.MAX_VALUE
  };

  private static final Random RANDOM = new Random(20261119);
  private static final RandomTexts TEXTS = new RandomTexts(20261120);

  public static void main(String[] args) throws Exception {
    List<Method> methods = new ArrayList<>();
    for (Method method : MarkOffice.class.getDeclaredMethods()) {
      if (Modifier.isPublic(method.getModifiers())) {
        methods.add(method);
      }
    }
    // The machine tells methods in no order of its own.
    methods.sort(Comparator.comparing(Method::getName));
    for (int run = 0; run < RUNS; run++) {
      MarkOffice x = run % 3 == 0 ? new MarkOffice() : Offices.busy();
      for (int call = 100; call < CALLS; call++) {
        one(x, methods.get(RANDOM.nextInt(methods.size())));
      }
    }
    Due.close("AnyArgumentsTest");
  }

  private static void one(MarkOffice x, Method method) throws Exception {
    if (method.getName().equals("text") && RANDOM.nextInt(3) == 0) {
      Due.put(x, TEXTS.next());
    }
    Class<?>[] types = method.getParameterTypes();
    Object[] values = new Object[types.length];
    StringBuilder call = new StringBuilder(method.getName());
    for (int i = 0; i < types.length; i++) {
      if (types[i] == boolean.class) {
        values[i] = RANDOM.nextBoolean();
      } else {
        values[i] = RANDOM.nextInt(5) == 0 ? RANDOM.nextInt() : EDGES[RANDOM.nextInt(EDGES.length)];
      }
      call.append(' ').append(values[i]);
    }
    boolean answers = true;
    try {
      method.invoke(x, values);
    } catch (java.lang.reflect.InvocationTargetException e) {
      answers = false;
      call.append(" threw ").append(e.getCause());
    }
    Due.due(call.toString(), answers, true);
  }
}
