/** Counts and prints the answers that are not the ones that are due. */
final class Check {
  private static int wrong = 0;

  private Check() {
  }

  static void due(String call, long got, long want) {
    if (got != want) {
      wrong++;
      System.out.println(call + " answered " + got + ", due is " + want);
    }
  }

  /** A row of answers, told as one. */
  static void dues(String call, long[] got, long... want) {
    if (!java.util.Arrays.equals(got, want)) {
      wrong++;
      System.out.println(call + " answered " + java.util.Arrays.toString(got) + ", due is " + java.util.Arrays.toString(want));
    }
  }

  static void that(String what, boolean holds) {
    if (!holds) {
      wrong++;
      System.out.println("does not hold: " + what);
    }
  }

  /** The marks of THE TRACE as they are kept. */
  static long[] marks(BoxYard x) {
    long[] all = new long[Math.max(0, x.count(7))];
    for (int i = 0; i < all.length; i++) all[i] = x.trace(i);
    return all;
  }

  static void end() {
    System.out.println(wrong == 0 ? "all answers are as due" : wrong + " answers are not as due");
    if (wrong != 0) System.exit(1);
  }
}
