/** Promises 32 to 37: want, forget, least, row, alter, holds. */
public final class LeastTest {
  private static final int[] WILD = {Integer.MIN_VALUE, -9, -1, 99, Integer.MAX_VALUE};

  public static void main(String[] args) {
    wanting();
    leastRefused();
    fortyOneSearches();
    noWay();
    firstOfTheShortest();
    rows();
    altering();
    holding();
    holdingAsItIsNow();
    Check.end();
  }

  /** A BAY 0 whose STACKS have these BOXES, from the lowest place on; BOXES 0 .. by number. */
  private static BoxYard yard(int heights, int[]... stacks) {
    BoxYard x = new BoxYard();
    x.bay(0, 0, heights);
    x.crane(0, 0, 0);
    int boxes = 0;
    for (int[] stack : stacks) boxes += stack.length;
    for (int i = 0; i < boxes; i++) x.box(0, 1, 1, 0, 0);
    for (int s = 0; s < stacks.length; s++) {
      for (int b : stacks[s]) {
        x.take(0, b);
        Check.that("the yard stands", x.set(0, s) > 0);
      }
    }
    return x;
  }

  private static void want(BoxYard x, int... boxes) {
    x.forget();
    for (int b : boxes) x.want(b);
  }

  private static void row(BoxYard x, long... want) {
    long[] got = new long[2 * x.count(8)];
    for (int i = 0; i < got.length; i++) got[i] = x.row(i / 2, i % 2);
    Check.dues("row", got, want);
  }

  /** Promises 32, 33. */
  private static void wanting() {
    BoxYard x = new BoxYard();
    for (int i = 0; i < 7; i++) x.box(0, 1, 1, 0, 0);
    for (int w : WILD) Check.due("want(" + w + ")", x.want(w), -1);
    Check.due("want(7)", x.want(7), -1);
    for (int i = 0; i < 5; i++) {
      Check.due("want", x.want(6 - i), i + 1);
      Check.due("it is in it", x.want(6 - i), -3);
      Check.due("count(10)", x.count(10), i + 1);
    }
    Check.due("FULL", x.want(0), -4);
    Check.due("STATE is ahead of FULL", x.want(6), -3);
    Check.due("forget", x.forget(), 5);
    Check.due("count(10)", x.count(10), 0);
    Check.due("forget", x.forget(), 0);
    Check.due("want", x.want(6), 1);
    Check.due("forget", x.forget(), 1);
  }

  /** Promise 34. */
  private static void leastRefused() {
    BoxYard x = yard(3333, new int[] {0, 1, 2}, new int[] {3, 4, 5}, new int[] {6});
    want(x, 0);
    for (int w : WILD) Check.due("least(" + w + ")", x.least(w), -1);
    Check.due("least(1)", x.least(1), -1);
    Check.due("7 BOXES", x.least(0), -2);
    x.lift(0, 2);
    Check.due("6 BOXES", x.least(0), 3);
    row(x, 0, 2, 0, 2, 0, -9);
    x.bay(1, 0, 11111);
    want(x, 6);
    Check.due("5 STACKS, ahead of STATE", x.least(1), -2);
    Check.due("it has not all of it", x.least(0), -3);
    want(x, 1, 6);
    Check.due("it has not all of it", x.least(0), -3);
    row(x, 0, 2, 0, 2, 0, -9);
    x.go(0, 1);
    x.set(0, 0);
    Check.due("another BAY's", x.least(0), -3);
    want(x);
    Check.due("THE ORDER is empty", x.least(0), 0);
    Check.due("LIFTS", x.count(8), 0);
  }

  private static void fortyOneSearches() {
    BoxYard x = yard(2, new int[] {0, 1});
    for (int i = 0; i < 40; i++) {
      if (i % 3 == 0) want(x, 0);
      else if (i % 3 == 1) want(x, 1);
      else want(x);
      Check.due("UNKNOWN does not count", x.least(1), -1);
      Check.due("search " + i, x.least(0), i % 3 == 0 ? -9 : i % 3 == 1 ? 1 : 0);
    }
    want(x, 1);
    Check.due("the 41st", x.least(0), -4);
    Check.due("still", x.least(0), -4);
    Check.due("UNKNOWN is ahead of FULL", x.least(1), -1);
    want(x, 0, 1);
    x.lift(0, 0);
    Check.due("STATE is ahead of FULL", x.least(0), -3);
    x.clear();
    x.bay(0, 0, 1);
    for (int i = 0; i < 40; i++) Check.due("clear() begins again", x.least(0), 0);
    Check.due("the 41st", x.least(0), -4);
  }

  private static void noWay() {
    BoxYard x = yard(11, new int[] {0}, new int[] {1});
    want(x, 1, 0);
    Check.due("both", x.least(0), 2);
    row(x, 1, -9, 0, -9);
    x = yard(2, new int[] {0, 1});
    want(x, 0);
    Check.due("NONE", x.least(0), -9);
    Check.due("no ROW", x.count(8), 0);
    Check.due("there was none", x.holds(), -3);
    want(x, 1, 0);
    Check.due("in this order", x.least(0), 2);
    row(x, 0, -9, 0, -9);
    want(x, 0, 1);
    Check.due("in that order", x.least(0), -9);
    Check.due("THE ROW is empty then", x.count(8), 0);
    Check.due("row", x.row(0, 0), -1);
    Check.due("worked from the one before", x.holds(), 0);
    want(x);
    Check.due("THE ORDER is empty, and THE ROW is", x.holds(), 1);
    // Four places above the one that is wanted, three beside it.
    x = yard(35, new int[] {0, 1, 2, 3, 4});
    want(x, 0);
    Check.due("NONE", x.least(0), -9);
    want(x, 1);
    Check.due("one higher", x.least(0), 4);
    // The last one can't be reached before one above it is out: but it is to go first.
    x = yard(122, new int[] {0, 1}, new int[] {2, 3}, new int[] {4});
    want(x, 0);
    Check.due("nothing can move", x.least(0), -9);
    want(x, 1, 0);
    Check.due("out", x.least(0), 2);
  }

  private static void firstOfTheShortest() {
    BoxYard x = yard(3333, new int[] {}, new int[] {0, 1}, new int[] {2, 3});
    want(x, 0);
    Check.due("least", x.least(0), 2);
    row(x, 1, 0, 1, -9);
    want(x, 0, 2);
    Check.due("least", x.least(0), 4);
    row(x, 1, 0, 1, -9, 2, 0, 2, -9);
    x = yard(3333, new int[] {0}, new int[] {1}, new int[] {2, 3});
    want(x, 2, 0, 1);
    Check.due("least", x.least(0), 4);
    // Onto STACK 3, not onto one that is to go out.
    row(x, 2, 3, 2, -9, 0, -9, 1, -9);
    want(x, 0, 2, 1, 3);
    Check.due("least", x.least(0), 5);
    // Out is ahead of STACK 1, and from STACK 0 is ahead of from STACK 2.
    row(x, 0, -9, 2, 0, 2, -9, 1, -9, 0, -9);
    x = yard(54, new int[] {0, 1, 2}, new int[] {3, 4, 5});
    want(x, 0, 1, 2, 3, 4);
    Check.due("a long one", x.least(0), 9);
    row(x, 0, 1, 0, 1, 0, -9, 1, -9, 1, -9, 1, 0, 1, 0, 1, -9, 0, -9);
    Check.due("it holds", x.holds(), 1);
    x = yard(55, new int[] {1}, new int[] {0, 2, 4, 5, 3});
    want(x, 0, 1, 2, 3, 4);
    Check.due("a longer one", x.least(0), 19);
    Check.due("LIFTS", x.count(8), 19);
    Check.due("it holds", x.holds(), 1);
    Check.due("its last LIFT", x.row(18, 1), -9);
  }

  /** Promise 35. */
  private static void rows() {
    BoxYard x = yard(333, new int[] {0, 1});
    Check.due("before any", x.row(0, 0), -1);
    want(x, 0);
    x.least(0);
    row(x, 0, 1, 0, -9);
    for (int w : WILD) {
      Check.due("row(" + w + ", 9)", x.row(w, 9), -1);
      if (w != 0) Check.due("row(0, " + w + ")", x.row(0, w), -2);
    }
    Check.due("row(2, 0)", x.row(2, 0), -1);
    Check.due("row(0, 2)", x.row(0, 2), -2);
    x.forget();
    row(x, 0, 1, 0, -9);
  }

  /** Promise 36. */
  private static void altering() {
    BoxYard x = yard(333, new int[] {0, 1});
    Check.due("before any", x.alter(0, 0, 0), -1);
    want(x, 0);
    x.least(0);
    Check.due("alter", x.alter(0, 0, 2), 1);
    row(x, 0, 2, 0, -9);
    Check.due("it holds", x.holds(), 1);
    for (int w : WILD) {
      Check.due("alter(" + w + ")", x.alter(w, 0, 0), -1);
      Check.due("any from", x.alter(0, w, 2), 1);
      Check.due("it does not hold", x.holds(), 0);
      Check.due("any to", x.alter(0, 0, w), 1);
      Check.due("it does not hold", x.holds(), 0);
      Check.due("what it became", x.row(0, 1), w);
    }
    Check.due("alter(2)", x.alter(2, 0, 0), -1);
    x.alter(0, 0, 1);
    Check.due("it holds again", x.holds(), 1);
  }

  /** Promise 37. */
  private static void holding() {
    BoxYard x = yard(2222, new int[] {0, 1}, new int[] {2, 3});
    Check.due("there was none", x.holds(), -3);
    want(x, 0, 2);
    Check.due("least", x.least(0), 4);
    row(x, 0, 2, 0, -9, 1, 0, 1, -9);
    Check.due("as it is", x.holds(), 1);
    holds(x, 0, "from an empty STACK", 3, 2, 0, -9, 1, 0, 1, -9);
    holds(x, 0, "to the same", 0, 0, 0, -9, 1, 0, 1, -9);
    holds(x, 0, "to a full one", 0, 1, 0, -9, 1, 0, 1, -9);
    holds(x, 0, "to none such", 0, 4, 0, -9, 1, 0, 1, -9);
    holds(x, 0, "from none such", 4, 2, 0, -9, 1, 0, 1, -9);
    holds(x, 0, "out, not the next", 0, -9, 0, -9, 1, 0, 1, -9);
    holds(x, 0, "the other one first", 1, 2, 1, -9, 0, 3, 0, -9);
    holds(x, 1, "another way", 0, 3, 0, -9, 1, 3, 1, -9);
    holds(x, 1, "another way", 1, 3, 0, 3, 0, -9, 1, -9);
    holds(x, 0, "the last is not out", 0, 2, 0, -9, 1, 0, 0, 1);
    want(x, 0);
    holds(x, 0, "LIFTS behind the last one", 0, 2, 0, -9, 1, 0, 1, 3);
    holds(x, 1, "a longer way", 0, 2, 2, 3, 3, 2, 0, -9);
    holds(x, 0, "over a full one", 0, 1, 1, 3, 3, 2, 0, -9);
    want(x, 0, 2, 1);
    holds(x, 0, "one of THE ORDER is in it still", 0, 2, 0, -9, 1, 0, 1, -9);
    want(x);
    Check.due("THE ORDER is empty, THE ROW is not", x.holds(), 0);
  }

  private static void holds(BoxYard x, int want, String what, int... row) {
    for (int i = 0; i < row.length / 2; i++) x.alter(i, row[2 * i], row[2 * i + 1]);
    Check.due(what, x.holds(), want);
  }

  private static void holdingAsItIsNow() {
    BoxYard fresh = new BoxYard();
    fresh.bay(3, 0, 1);
    fresh.least(3);
    Check.due("THE ORDER is empty, and THE ROW is", fresh.holds(), 1);
    fresh.box(0, 1, 1, 0, 0);
    fresh.want(0);
    Check.due("it is not in that BAY", fresh.holds(), 0);
    BoxYard x = yard(2222, new int[] {0, 1}, new int[] {2, 3});
    want(x, 0);
    x.least(0);
    x.lift(0, 0);
    Check.due("the upper one is away", x.holds(), 0);
    x.set(0, 3);
    Check.due("it is elsewhere", x.holds(), 0);
    x.lift(0, 3);
    x.set(0, 0);
    Check.due("it is back", x.holds(), 1);
    x.bay(1, 0, 22);
    want(x);
    x.least(1);
    Check.due("another BAY, empty", x.holds(), 1);
    want(x, 0);
    Check.due("that BAY has it not", x.holds(), 0);
    x.least(0);
    Check.due("this one has", x.holds(), 1);
    want(x, 0, 1);
    Check.due("THE ORDER as it is now", x.holds(), 0);
    want(x, 0);
    x.want(1);
    Check.due("least of that", x.least(0), 3);
    Check.due("holds", x.holds(), 1);
    x.lift(0, 0);
    x.drop(0);
    Check.due("one of THE ORDER is GONE", x.holds(), 0);
    Check.due("what is refused leaves THE ROW", x.least(0) * 10 + x.count(8), -27);
    x.undo();
    x.undo();
    Check.due("it is as before", x.holds(), 1);
    x.clear();
    Check.due("clear", x.holds(), -3);
  }
}
