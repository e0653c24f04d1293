/** Promises 24 to 31: ship, limit, route, plan, sum, mean, stable, broke. */
public final class ShipsTest {
  private static final int[] WILD = {Integer.MIN_VALUE, -10, -1, 12, Integer.MAX_VALUE};

  public static void main(String[] args) {
    newShips();
    limits();
    routes();
    plans();
    planRefusals();
    sums();
    means();
    stableOrder();
    stableLimits();
    stableCounts();
    broke();
    Check.end();
  }

  /** Promise 24. */
  private static void newShips() {
    BoxYard x = new BoxYard();
    int[][] bad = {{0, 1, 1, 0}, {7, 1, 1, 0}, {1, 0, 1, 0}, {1, 4, 1, 0}, {1, 1, 0, 0}, {1, 1, 4, 0}, {1, 1, 1, -1}, {1, 1, 1, 10}};
    for (int[] b : bad) Check.due("ship " + java.util.Arrays.toString(b), x.ship(b[0], b[1], b[2], b[3]), -2);
    for (int w : WILD) {
      Check.due("nx " + w, x.ship(w, 1, 1, 0), -2);
      Check.due("ny " + w, x.ship(1, w, 1, 0), -2);
      Check.due("nz " + w, x.ship(1, 1, w, 0), -2);
      Check.due("berth " + w, x.ship(1, 1, 1, w), -2);
    }
    Check.due("none came", x.count(2), 0);
    x.crane(3, -9, 0);
    x.go(0, 1);
    Check.due("the least", x.ship(1, 1, 1, 0), 0);
    Check.due("the most", x.ship(6, 3, 3, 9), 1);
    Check.due("one more", x.ship(2, 2, 2, 2), 2);
    Check.due("FULL", x.ship(2, 2, 2, 2), -4);
    Check.due("OUTSIDE is ahead of FULL", x.ship(0, 2, 2, 2), -2);
    Check.due("count(2)", x.count(2), 3);
    Check.due("the journal stays", x.count(3), 1);
  }

  /** Promise 25. */
  private static void limits() {
    BoxYard x = new BoxYard();
    x.ship(1, 1, 1, 0);
    x.ship(1, 1, 1, 0);
    for (int what = 0; what <= 2; what++) {
      Check.due("at first", x.limit(0, what, what), 1000000);
      Check.due("then", x.limit(0, what, 1000000), what);
      Check.due("then", x.limit(0, what, 0), 1000000);
      Check.due("another SHIP's", x.limit(1, what, 7), 1000000);
    }
    for (int w : WILD) {
      Check.due("ship " + w, x.limit(w, 9, 9), -1);
      Check.due("what " + w, x.limit(0, w, 9), -2);
    }
    Check.due("no such SHIP", x.limit(2, 0, 0), -1);
    Check.due("what 3", x.limit(0, 3, 0), -2);
    Check.due("n -1", x.limit(0, 0, -1), -2);
    Check.due("n 1000001", x.limit(0, 0, 1000001), -2);
    Check.due("as it was", x.limit(0, 0, 5), 0);
  }

  /** Promise 26. */
  private static void routes() {
    BoxYard x = new BoxYard();
    x.ship(1, 1, 1, 0);
    x.ship(1, 1, 1, 0);
    Check.due("no ROUTE", x.sum(0, 5), -9);
    int[] ports = {5, 0, 7, 3, 1, 2, 6, 4};
    for (int i = 0; i < 8; i++) {
      Check.due("route", x.route(0, ports[i]), i + 1);
      Check.due("it has it", x.route(0, ports[i]), -3);
      Check.due("SERVED is the first", x.sum(0, 5), 5);
    }
    Check.due("another SHIP's", x.route(1, 0), 1);
    Check.due("another SHIP's", x.sum(1, 5), 0);
    for (int w : WILD) {
      Check.due("ship " + w, x.route(w, 9), -1);
      Check.due("port " + w, x.route(1, w), -2);
    }
    Check.due("no such SHIP", x.route(2, 0), -1);
    Check.due("port 8", x.route(1, 8), -2);
    for (int i = 1; i < 8; i++) {
      Check.due("serve", x.serve(0), i);
      Check.due("SERVED", x.sum(0, 5), ports[i]);
    }
    Check.due("a PORT left behind is still on it", x.route(0, 5), -3);
  }

  /** Promise 27. */
  private static void plans() {
    BoxYard x = new BoxYard();
    x.ship(1, 1, 1, 0);
    x.ship(1, 1, 1, 0);
    x.box(0, 1, 1, 0, 0);
    Check.due("no LINK", x.where(0, 7), -9);
    Check.due("plan", x.plan(0, 1, -9, 9, 0), 1);
    Check.due("its SHIP", x.where(0, 7), 1);
    Check.due("in place of one", x.plan(0, 0, 9, -9, 9), 1);
    Check.due("its SHIP", x.where(0, 7), 0);
    Check.due("none", x.plan(0, -9, 99, 99, 99), 1);
    Check.due("no LINK", x.where(0, 7), -9);
    Check.due("none again", x.plan(0, -9, 0, 0, 0), 1);
    Check.due("stable without it", x.stable(0), 1);
  }

  private static void planRefusals() {
    BoxYard x = new BoxYard();
    x.ship(1, 1, 1, 0);
    x.crane(1, 0, 0);
    x.box(0, 1, 1, 0, 0);
    x.plan(0, 0, 0, 0, 0);
    for (int w : WILD) {
      Check.due("box " + w, x.plan(w, 0, 99, 0, 0), -1);
      Check.due("box " + w, x.plan(w, -9, 0, 0, 0), -1);
      Check.due("ship " + w, x.plan(0, w, 99, 0, 0), -1);
    }
    Check.due("ship 1", x.plan(0, 1, 0, 0, 0), -1);
    for (int w : new int[] {Integer.MIN_VALUE, -10, 10, Integer.MAX_VALUE}) {
      Check.due("x " + w, x.plan(0, 0, w, 0, 0), -2);
      Check.due("y " + w, x.plan(0, 0, 0, w, 0), -2);
      Check.due("z " + w, x.plan(0, 0, 0, 0, w), -2);
    }
    x.take(0, 0);
    x.load(0);
    Check.due("it is in a SHIP", x.plan(0, 0, 0, 0, 0), -3);
    Check.due("it is in a SHIP", x.plan(0, -9, 0, 0, 0), -3);
    Check.due("OUTSIDE is ahead", x.plan(0, 0, 10, 0, 0), -2);
    Check.due("its LINK stays", x.where(0, 7), 0);
    x.fetch(0, 0, 0, 0);
    Check.due("it is not any more", x.plan(0, -9, 0, 0, 0), 1);
    x.drop(0);
    Check.due("GONE", x.plan(0, 0, 0, 0, 0), 1);
    Check.due("GONE", x.where(0, 7), 0);
    Check.due("GONE ones have no say", x.stable(0), 1);
  }

  /** Promise 28. */
  private static void sums() {
    BoxYard x = new BoxYard();
    x.crane(1, 0, 0);
    x.ship(6, 3, 3, 0);
    x.route(0, 3);
    int[][] at = {{0, 0, 0}, {5, 2, 0}, {5, 2, 1}, {5, 2, 2}, {2, 1, 0}};
    int[] w = {100, 30, 20, 10, 7};
    long[] sums = new long[7];
    sums[5] = 3;
    for (int i = 0; i < 5; i++) {
      x.box(0, 400 - w[i], w[i], 0, 0);
      x.plan(i, 0, at[i][0], at[i][1], at[i][2]);
      x.take(0, i);
      Check.that("loaded", x.load(0) > 0);
      sums[0] += w[i] * (2 * at[i][0] - 5);
      sums[1] += w[i] * (2 * at[i][1] - 2);
      sums[2] += w[i] * at[i][2];
      sums[3] += w[i];
      sums[6]++;
      sums(x, sums);
    }
    Check.dues("by hand", sums, -207, -80, 40, 167, 0, 3, 5);
    x.fetch(0, 0, 5, 2);
    sums(x, -257, -100, 20, 157, 0, 3, 4);
    for (int i : WILD) {
      Check.due("ship " + i, x.sum(i, 99), -2000000001);
      Check.due("what " + i, x.sum(0, i), -2000000002);
    }
    Check.due("no such SHIP", x.sum(1, 0), -2000000001);
    Check.due("what 7", x.sum(0, 7), -2000000002);
  }

  private static void sums(BoxYard x, long... want) {
    long[] got = new long[7];
    for (int what = 0; what < 7; what++) got[what] = x.sum(0, what);
    Check.dues("sum(0, 0 .. 6)", got, want);
  }

  /** Promise 29. */
  private static void means() {
    BoxYard x = new BoxYard();
    for (int w : WILD) Check.due("mean(" + w + ")", x.mean(w), -1);
    x.crane(1, 0, 0);
    x.ship(1, 1, 3, 0);
    Check.due("NOUGHT", x.mean(0), -66);
    Check.due("found NOUGHT", x.found(6), 1);
    Check.due("no such SHIP", x.mean(1), -1);
    int[] w = {10, 20, 100};
    int[] due = {0, 0, 1};
    for (int z = 0; z < 3; z++) {
      x.box(0, w[z], w[z], 0, 0);
      x.plan(z, 0, 0, 0, z);
      x.take(0, z);
      x.load(0);
      Check.due("HEIGHT by weight", x.mean(0), due[z]);
    }
    for (int z = 2; z >= 0; z--) {
      x.fetch(0, 0, 0, 0);
      x.drop(0);
    }
    Check.due("NOUGHT", x.mean(0), -66);
    Check.due("found NOUGHT", x.found(6), 2);
    Check.due("no ACT", x.status(), 0);
  }

  /** Promise 30: the order in which the LINKS were told. */
  private static void stableOrder() {
    BoxYard x = new BoxYard();
    x.ship(2, 1, 2, 0);
    x.ship(1, 1, 1, 0);
    for (int i = 0; i < 4; i++) x.box(0, 10, 10, 0, 0);
    Check.due("none", x.stable(0), 1);
    x.plan(0, 0, 0, 0, 1);
    x.plan(1, 0, 0, 0, 0);
    stable(x, 0, 0, 0, -52);
    x.plan(0, 0, 0, 0, 1);
    Check.due("told again, it is the latest", x.stable(0), 1);
    x.plan(2, 0, 0, 0, 1);
    stable(x, 0, 2, 2, -52);
    x.plan(2, 1, 0, 0, 0);
    Check.due("another SHIP's have no say", x.stable(0), 1);
    Check.due("another SHIP", x.stable(1), 1);
    int[][] beyond = {{2, 0, 0}, {0, 1, 0}, {1, 0, 2}, {-1, 0, 0}, {0, -1, 0}, {0, 0, -1}};
    for (int[] b : beyond) {
      x.plan(3, 0, b[0], b[1], b[2]);
      stable(x, 0, 3, 2, -62);
    }
    Check.due("findings of it are not counted", x.found(2), 0);
    x.plan(1, 0, 0, 0, 0);
    stable(x, 0, 0, 0, -52);
    x.plan(0, -9, 0, 0, 0);
    stable(x, 0, 3, 0, -62);
    x.plan(3, -9, 0, 0, 0);
    Check.due("stable", x.stable(0), 1);
    for (int w : WILD) Check.due("stable(" + w + ")", x.stable(w), -1);
    Check.due("stable(2)", x.stable(2), -1);
  }

  private static void stable(BoxYard x, int ship, long... broke) {
    Check.due("stable(" + ship + ")", x.stable(ship), 0);
    Check.dues("broke", new long[] {x.broke(0), x.broke(1), x.broke(2)}, broke);
  }

  private static void stableLimits() {
    BoxYard x = new BoxYard();
    x.ship(2, 2, 2, 0);
    x.box(0, 10, 99, 0, 0);
    x.box(0, 30, 99, 0, 0);
    x.box(0, 20, 99, 0, 0);
    x.plan(0, 0, 0, 0, 0);
    x.plan(1, 0, 1, 1, 0);
    x.plan(2, 0, 1, 1, 1);
    // One after the other: TRIM and HEEL -10, 20, 40; HEIGHT 0, 0, 20.
    int[][] limits = {{0, 9, 0, 0}, {0, 19, 1, 1}, {0, 39, 2, 2}, {1, 9, 0, 0}, {1, 19, 1, 1}, {1, 39, 2, 2}, {2, 19, 2, 2}};
    for (int[] l : limits) {
      x.limit(0, l[0], l[1]);
      stable(x, 0, l[2], l[3], -53);
      x.limit(0, l[0], l[1] + 1);
      Check.that("further", x.stable(0) == 1 || x.broke(1) > l[3]);
      x.limit(0, l[0], 1000000);
    }
    x.limit(0, 0, 40);
    x.limit(0, 1, 40);
    x.limit(0, 2, 20);
    Check.due("as much as the LIMITS", x.stable(0), 1);
  }

  /** BOXES in the SHIP count, those of it GONE or in it are not to come; one that was fetched is to come again. */
  private static void stableCounts() {
    BoxYard x = new BoxYard();
    x.crane(1, 0, 0);
    x.ship(1, 1, 3, 0);
    x.ship(1, 1, 1, 0);
    for (int i = 0; i < 3; i++) x.box(0, 10, 50, 0, 0);
    x.plan(1, 0, 0, 0, 1);
    stable(x, 0, 1, 0, -52);
    x.plan(0, 0, 0, 0, 0);
    x.take(0, 0);
    x.load(0);
    Check.due("onto what is in it", x.stable(0), 1);
    x.plan(2, 0, 0, 0, 2);
    Check.due("two", x.stable(0), 1);
    x.limit(0, 2, 29);
    stable(x, 0, 2, 1, -53);
    x.limit(0, 2, 30);
    Check.due("KNOWN is TOLD", x.stable(0), 1);
    x.take(0, 1);
    stable(x, 0, 1, 0, -53);
    x.limit(0, 2, 70);
    Check.due("KNOWN is TRUE; it is at a CRANE", x.stable(0), 1);
    x.drop(0);
    stable(x, 0, 2, 0, -52);
    x.undo();
    x.load(0);
    Check.due("in it", x.stable(0), 1);
    x.fetch(0, 0, 0, 0);
    Check.due("fetched", x.stable(0), 1);
    x.limit(0, 2, 49);
    stable(x, 0, 1, 0, -53);
    x.plan(1, 1, 0, 0, 0);
    x.load(0);
    stable(x, 0, 2, 0, -52);
    Check.due("it is in another SHIP", x.where(1, 1), 1);
  }

  /** Promise 31. */
  private static void broke() {
    BoxYard x = new BoxYard();
    x.ship(1, 1, 1, 0);
    x.ship(1, 1, 1, 0);
    x.box(0, 1, 1, 0, 0);
    x.plan(0, 0, 1, 0, 0);
    for (int what = 0; what <= 2; what++) Check.due("there was none", x.broke(what), -9);
    stable(x, 0, 0, 0, -62);
    x.plan(0, 0, 0, 0, 0);
    Check.due("it stays until it is asked again", x.broke(2), -62);
    Check.due("UNKNOWN", x.stable(5), -1);
    Check.due("UNKNOWN has no say", x.broke(2), -62);
    Check.due("another SHIP", x.stable(1), 1);
    for (int what = 0; what <= 2; what++) Check.due("a later one answered 1", x.broke(what), -9);
    for (int w : new int[] {Integer.MIN_VALUE, -9, -1, 3, Integer.MAX_VALUE}) Check.due("broke(" + w + ")", x.broke(w), -2);
  }
}
