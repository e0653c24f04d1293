/** Promises 5 to 9: bay, plugs, apart, stack, share. */
public final class BaysTest {
  private static final int[] WILD = {Integer.MIN_VALUE, -9, -1, 10, Integer.MAX_VALUE};

  public static void main(String[] args) {
    layingOut();
    layingOutRefused();
    layingOutEmptiesTheJournal();
    plugs();
    apart();
    stack();
    share();
    Check.end();
  }

  /** Promise 5. */
  private static void layingOut() {
    BoxYard x = new BoxYard();
    int[] heights = {1, 5, 12, 543, 1234, 55555, 555555, 111111, 15, 51};
    int[] stacks = {1, 1, 2, 3, 4, 5, 6, 6, 2, 2};
    for (int b = 0; b <= 9; b++) Check.due("bay " + b, x.bay(b, b % 4, heights[b]), stacks[b]);
    for (int b = 0; b <= 9; b++) Check.due("bay " + b + " again", x.bay(b, 0, 1), -3);
    // The digits of 543 from the lowest on: STACK 0 is of HEIGHT 3.
    for (int s = 0; s <= 2; s++) {
      Check.due("the last place", x.stack(3, s, 2 + s), -9);
      Check.due("behind the last place", x.stack(3, s, 3 + s), -1);
    }
    Check.due("there is no STACK 3", x.stack(3, 3, 0), -1);
  }

  private static void layingOutRefused() {
    BoxYard x = new BoxYard();
    for (int w : WILD) Check.due("bay(" + w + ")", x.bay(w, 9, 9), -1);
    int[] forms = {Integer.MIN_VALUE, -1, 4, Integer.MAX_VALUE};
    for (int f : forms) Check.due("form " + f, x.bay(0, f, 1), -2);
    int[] bad = {Integer.MIN_VALUE, -11, -1, 0, 6, 7, 8, 9, 10, 16, 60, 61, 101, 121016, 555556, 655555, 600000, 1000000, 1111111,
      10111111, Integer.MAX_VALUE, 1111111111};
    for (int h : bad) Check.due("heights " + h, x.bay(0, 0, h), -2);
    Check.due("none was laid out", x.stack(0, 0, 0), -1);
    x.bay(0, 1, 1);
    Check.due("OUTSIDE is ahead of STATE", x.bay(0, 4, 1), -2);
    Check.due("OUTSIDE is ahead of STATE", x.bay(0, 0, 0), -2);
    Check.due("STATE", x.bay(0, 0, 5), -3);
    Check.due("it is as it was", x.stack(0, 0, 1), -1);
  }

  private static void layingOutEmptiesTheJournal() {
    BoxYard x = new BoxYard();
    x.crane(3, -9, 0);
    x.go(0, 1);
    x.go(0, 2);
    Check.due("a refused bay leaves it", x.bay(0, 0, 0) + 10 * x.count(3), 18);
    x.bay(0, 0, 1);
    Check.due("a bay empties it", x.count(3), 0);
    x.go(0, 3);
    x.bay(0, 0, 1);
    Check.due("one that was leaves it", x.count(3), 1);
    Check.due("undo", x.undo(), 3);
    Check.due("undo", x.undo(), -3);
  }

  /** Promise 6. */
  private static void plugs() {
    BoxYard x = new BoxYard();
    x.bay(4, 0, 35);
    Check.due("plugs", x.plugs(4, 0, 5), 0);
    Check.due("plugs", x.plugs(4, 0, 0), 5);
    Check.due("plugs", x.plugs(4, 0, 2), 0);
    Check.due("another STACK", x.plugs(4, 1, 3), 0);
    Check.due("OUTSIDE", x.plugs(4, 1, 4), -2);
    Check.due("OUTSIDE", x.plugs(4, 0, 6), -2);
    Check.due("OUTSIDE", x.plugs(4, 0, -1), -2);
    Check.due("as it was", x.plugs(4, 0, 2), 2);
    Check.due("as it was", x.plugs(4, 1, 3), 3);
    for (int w : WILD) {
      Check.due("plugs of bay " + w, x.plugs(w, 0, 99), -1);
      Check.due("plugs of stack " + w, x.plugs(4, w, 99), -1);
      if (w != -9) Check.due("plugs " + w, x.plugs(4, 0, w), -2);
    }
    Check.due("no such STACK", x.plugs(4, 2, 0), -1);
    Check.due("not laid out", x.plugs(5, 0, 0), -1);
  }

  /** Promise 7. */
  private static void apart() {
    BoxYard x = new BoxYard();
    int n = 0;
    for (int d = 1; d <= 4; d++) for (int e = d; e <= 4; e++) Check.due("apart", x.apart(d, e, n++ % 7), 0);
    n = 0;
    for (int d = 1; d <= 4; d++) for (int e = d; e <= 4; e++) Check.due("the other way round", x.apart(e, d, n % 7), n++ % 7);
    n = 0;
    for (int d = 1; d <= 4; d++) for (int e = d; e <= 4; e++) Check.due("and this way", x.apart(d, e, n % 7), n++ % 7);
    int[] bad = {Integer.MIN_VALUE, -1, 0, 5, Integer.MAX_VALUE};
    for (int w : bad) {
      Check.due("danger " + w, x.apart(w, 1, 1), -2);
      Check.due("other " + w, x.apart(1, w, 1), -2);
    }
    Check.due("n -1", x.apart(1, 1, -1), -2);
    Check.due("n 7", x.apart(1, 1, 7), -2);
    Check.due("n 6", x.apart(1, 1, 6), 0);
    Check.due("n 0", x.apart(1, 1, 0), 6);
  }

  /** Promise 8. */
  private static void stack() {
    BoxYard x = new BoxYard();
    x.bay(0, 0, 23);
    x.crane(0, 0, 0);
    for (int b = 0; b < 4; b++) {
      x.box(0, 10, 10, 0, 0);
      x.take(0, b);
      x.set(0, b == 1 ? 1 : 0);
    }
    Check.due("place 0", x.stack(0, 0, 0), 0);
    Check.due("place 1", x.stack(0, 0, 1), 2);
    Check.due("place 2", x.stack(0, 0, 2), 3);
    Check.due("place 3", x.stack(0, 0, 3), -1);
    Check.due("STACK 1", x.stack(0, 1, 0), 1);
    Check.due("it is empty", x.stack(0, 1, 1), -9);
    Check.due("no such place", x.stack(0, 1, 2), -1);
    for (int w : WILD) {
      Check.due("bay " + w, x.stack(w, 0, 0), -1);
      Check.due("stack " + w, x.stack(0, w, 0), -1);
      Check.due("place " + w, x.stack(0, 0, w), -1);
    }
    x.lift(0, 0);
    Check.due("it is empty again", x.stack(0, 0, 2), -9);
  }

  /** Promise 9: KNOWN weights, cut toward 0; findings are counted. */
  private static void share() {
    BoxYard x = new BoxYard();
    x.bay(0, 0, 33);
    x.crane(0, 0, 0);
    Check.due("NOUGHT", x.share(0), -66);
    Check.due("NO BAY", x.share(1), -61);
    Check.due("NO BAY", x.share(9), -61);
    for (int w : WILD) Check.due("share(" + w + ")", x.share(w), -1);
    Check.due("found NOUGHT", x.found(6), 1);
    Check.due("found NO BAY", x.found(1), 2);
    x.box(0, 10, 100, 0, 0);
    x.box(0, 10, 51, 0, 0);
    x.box(0, 10, 52, 0, 0);
    x.take(0, 0);
    Check.due("what a CRANE has is not there", x.share(0), -66);
    x.set(0, 0);
    Check.due("one", x.share(0), 100);
    x.take(0, 1);
    x.set(0, 1);
    Check.due("151 / 2", x.share(0), 75);
    x.take(0, 2);
    x.set(0, 0);
    Check.due("203 / 3", x.share(0), 67);
    Check.due("status is of ACTS alone", x.status(), 0);
    Check.due("found NOUGHT", x.found(6), 2);
  }
}
