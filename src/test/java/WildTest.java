import java.lang.reflect.Method;
import java.util.Arrays;
import java.util.Comparator;
import java.util.Random;

/** Any arguments in any state: no call throws, and two objects that get the same calls answer the same. */
public final class WildTest {
  private static final int[] EDGES = {Integer.MIN_VALUE, Integer.MAX_VALUE, -60, -40, -10, -9, -8, -1, 60, 61, 400, 401};

  public static void main(String[] args) throws Exception {
    Method[] calls = Arrays.stream(BoxYard.class.getDeclaredMethods())
        .filter(m -> java.lang.reflect.Modifier.isPublic(m.getModifiers()))
        .sorted(Comparator.comparing(Method::toString)).toArray(Method[]::new);
    int done = 0;
    for (int seed = 0; seed < 400; seed++) done += run(calls, new Random(seed), seed);
    Check.that("ACTS were done: " + done, done > 1000);
    Check.end();
  }

  private static int run(Method[] calls, Random chance, int seed) throws Exception {
    BoxYard x = new BoxYard();
    BoxYard y = new BoxYard();
    int wild = 3 + chance.nextInt(40);
    if (chance.nextInt(4) > 0) begin(x, y, chance);
    for (int i = 0; i < 450; i++) {
      Method m = calls[chance.nextInt(calls.length)];
      if (m.getName().equals("clear") && chance.nextInt(8) > 0) continue;
      Object[] args = new Object[m.getParameterCount()];
      for (int a = 0; a < args.length; a++) args[a] = number(chance, wild);
      Object[] copy = args.clone();
      try {
        Object first = m.invoke(x, args);
        Object second = m.invoke(y, copy);
        Check.that("run " + seed + ": " + m.getName() + Arrays.toString(args) + " twice", first.equals(second));
      } catch (java.lang.reflect.InvocationTargetException e) {
        Check.that("run " + seed + ": " + m.getName() + Arrays.toString(args) + " threw " + e.getCause(), false);
      }
    }
    return x.count(4);
  }

  private static void begin(BoxYard x, BoxYard y, Random chance) {
    for (BoxYard z : new BoxYard[] {x, y}) {
      z.bay(0, 0, 3333);
      z.bay(1, 0, 22);
      z.crane(1, 0, 0);
      z.crane(3, -9, 0);
      z.ship(2, 2, 2, 0);
      for (int i = 0; i < 8; i++) z.box(i % 6, 10 + i, 20 + i, i % 5, i);
      for (int i = 0; i < 4; i++) {
        z.take(1, 2 * i);
        z.set(1, i % 3);
      }
      z.task();
      z.task();
    }
  }

  private static int number(Random chance, int wild) {
    if (chance.nextInt(wild) == 0) return EDGES[chance.nextInt(EDGES.length)];
    if (chance.nextInt(wild) == 0) return chance.nextInt();
    int most = chance.nextInt(3) == 0 ? 16 : 3;
    return chance.nextInt(most);
  }
}
