/** Promises 1 to 4: a new object, box, body, where. */
public final class BoxesTest {
  private static final int[] WILD = {Integer.MIN_VALUE, -10, -9, -1, Integer.MAX_VALUE};

  public static void main(String[] args) {
    aNewObject();
    boxNumbers();
    boxEdges();
    bodies();
    bodiesByKnownWeight();
    bodyRefusals();
    where();
    Check.end();
  }

  /** Promise 1. */
  private static void aNewObject() {
    BoxYard x = new BoxYard();
    for (int what = 0; what <= 10; what++) Check.due("new: count(" + what + ")", x.count(what), 0);
    Check.due("new: status", x.status(), 0);
    Check.due("new: number", x.number(), 0);
    for (int what = 0; what <= 3; what++) Check.due("new: ran(" + what + ")", x.ran(what), -9);
    for (int f = 1; f <= 7; f++) Check.due("new: found(" + f + ")", x.found(f), 0);
    for (int what = 0; what <= 2; what++) Check.due("new: broke(" + what + ")", x.broke(what), -9);
    for (int s = 0; s <= 3; s++) {
      for (int p = 0; p <= 2; p++) Check.due("new: shelf(" + s + ", " + p + ")", x.shelf(s, p), -9);
      Check.due("new: shelf(" + s + ", 3)", x.shelf(s, 3), -1);
    }
    for (int b = 0; b <= 9; b++) Check.due("new: stack of bay " + b, x.stack(b, 0, 0), -1);
    Check.due("new: trace(0)", x.trace(0), -9);
    Check.due("new: undo", x.undo(), -3);
    Check.due("new: back(0)", x.back(0), 17);
    Check.due("new: back(1)", x.back(1), -1);
    Check.due("new: holds", x.holds(), -3);
    Check.due("new: forget", x.forget(), 0);
    Check.due("new: row", x.row(0, 0), -1);
    Check.due("new: where(0, 0)", x.where(0, 0), -1);
    Check.due("new: look(0, 0)", x.look(0, 0), -1);
    Check.due("new: sum(0, 0)", x.sum(0, 0), -2000000001);
    Check.due("new: run(0)", x.run(0), -1);
    for (int r = 0; r <= 2; r++) Check.due("new: rail(" + r + ", 1)", x.rail(r, 1), 1);
    Check.due("new: wind(0)", x.wind(0), 0);
    for (int d = 1; d <= 4; d++) for (int e = 1; e <= 4; e++) Check.due("new: apart", x.apart(d, e, 0), 0);
    Check.due("new: clear", x.clear(), 0);
    Check.that("two objects share nothing", new BoxYard().box(0, 1, 1, 0, 0) == 0 && x.count(0) == 0);
  }

  /** Promise 2: numbers as they come, 80 at most. */
  private static void boxNumbers() {
    BoxYard x = new BoxYard();
    for (int i = 0; i < 80; i++) Check.due("box " + i, x.box(i % 6, 1 + i, 400 - i, i % 5, i % 8), i);
    Check.due("box 80", x.box(0, 1, 1, 0, 0), -4);
    Check.due("OUTSIDE is ahead of FULL", x.box(6, 1, 1, 0, 0), -2);
    Check.due("count(0)", x.count(0), 80);
    Check.due("the last one's KIND", x.where(79, 8), 1);
    Check.due("the last one's PORT", x.where(79, 9), 7);
    Check.due("the last one's TOLD weight", x.where(79, 4), 80);
    Check.due("there is none behind", x.where(80, 8), -1);
  }

  private static void boxEdges() {
    BoxYard x = new BoxYard();
    for (int w : WILD) {
      Check.due("KIND " + w, x.box(w, 1, 1, 0, 0), -2);
      Check.due("TOLD " + w, x.box(0, w, 1, 0, 0), -2);
      Check.due("TRUE " + w, x.box(0, 1, w, 0, 0), -2);
      Check.due("DANGER " + w, x.box(0, 1, 1, w, 0), -2);
      Check.due("PORT " + w, x.box(0, 1, 1, 0, w), -2);
    }
    Check.due("KIND 6", x.box(6, 1, 1, 0, 0), -2);
    Check.due("TOLD 0", x.box(0, 0, 1, 0, 0), -2);
    Check.due("TOLD 401", x.box(0, 401, 1, 0, 0), -2);
    Check.due("TRUE 0", x.box(0, 1, 0, 0, 0), -2);
    Check.due("TRUE 401", x.box(0, 1, 401, 0, 0), -2);
    Check.due("DANGER 5", x.box(0, 1, 1, 5, 0), -2);
    Check.due("PORT 8", x.box(0, 1, 1, 0, 8), -2);
    Check.due("none came", x.count(0), 0);
    Check.due("the least", x.box(0, 1, 1, 0, 0), 0);
    Check.due("the most", x.box(5, 400, 400, 4, 7), 1);
  }

  /** Promise 3: every body of every KIND, with its marks. */
  private static void bodies() {
    BoxYard x = new BoxYard();
    for (int kind = 0; kind <= 5; kind++) x.box(kind, 257, 123, 3, 0);
    body(x, 0, 0, 900, 1);
    body(x, 1, 0, 600, 2, 1);
    body(x, 2, 0, 225, 3, 1);
    body(x, 3, 0, 0, 4);
    body(x, 4, 0, 0, 4);
    body(x, 5, 0, 300, 6, 1);
    for (int kind = 0; kind <= 3; kind++) body(x, kind, 1, 2, 10, 17);
    body(x, 4, 1, 3, 15, 10, 17);
    body(x, 5, 1, 1, 16);
    body(x, 0, 2, 30, 20);
    body(x, 1, 2, 70, 22, 20);
    body(x, 2, 2, 60, 23, 20);
    body(x, 3, 2, 60, 24, 20);
    body(x, 4, 2, 90, 25, 24, 20);
    body(x, 5, 2, 3, 26, 27);
    body(x, 1, 3, 6, 32);
    int[] others = {0, 2, 3, 4, 5};
    for (int i = 0; i < others.length; i++) {
      body(x, others[i], 3, -65);
      Check.due("found(5)", x.found(5), i + 1);
    }
    Check.due("status is of ACTS alone", x.status(), 0);
  }

  private static void body(BoxYard x, int box, int what, int want, long... marks) {
    Check.due("body(" + box + ", " + what + ")", x.body(box, what), want);
    Check.dues("marks of body(" + box + ", " + what + ")", Check.marks(x), marks);
  }

  private static void bodiesByKnownWeight() {
    BoxYard x = new BoxYard();
    x.crane(0, 0, 0);
    x.box(1, 99, 300, 0, 0);
    Check.due("FEE as told", x.body(0, 2), 54);
    Check.due("WATTS as told", x.body(0, 3), 4);
    x.take(0, 0);
    Check.due("FEE as weighed", x.body(0, 2), 75);
    Check.due("WATTS as weighed", x.body(0, 3), 7);
  }

  private static void bodyRefusals() {
    BoxYard x = new BoxYard();
    x.box(0, 1, 1, 0, 0);
    for (int w : WILD) {
      x.body(0, 0);
      Check.due("body(" + w + ", 0)", x.body(w, 0), -1);
      Check.due("a refused one leaves no marks", x.count(7), 0);
      x.body(0, 0);
      Check.due("body(0, " + w + ")", x.body(0, w), -2);
      Check.due("a refused one leaves no marks", x.count(7), 0);
    }
    Check.due("body(1, 9): UNKNOWN is first", x.body(1, 9), -1);
    Check.due("body(0, 4)", x.body(0, 4), -2);
    for (int f = 1; f <= 7; f++) Check.due("nothing was found " + f, x.found(f), 0);
  }

  /** Promise 4: a BOX through all places where it can be. */
  private static void where() {
    BoxYard x = new BoxYard();
    x.bay(0, 0, 33);
    x.crane(3, -9, 0);
    x.crane(1, 2, 0);
    x.box(0, 50, 50, 0, 0);
    x.box(1, 40, 60, 2, 5);
    x.ship(3, 2, 1, 0);
    x.ship(3, 2, 2, 0);
    x.plugs(0, 1, 3);
    wheres(x, 1, 0, 0, 0, 0, 40, 0, 0, -9, 1, 5);
    x.take(0, 0);
    x.set(0, 1);
    x.take(1, 1);
    wheres(x, 1, 2, 1, 0, 0, 60, 1, 1, -9, 1, 5);
    wheres(x, 0, 1, 0, 1, 0, 50, 1, 0, -9, 0, 0);
    x.set(1, 1);
    wheres(x, 1, 1, 0, 1, 1, 60, 1, 1, -9, 1, 5);
    x.plan(0, 1, 2, 1, 0);
    x.plan(1, 1, 2, 1, 1);
    x.lift(1, 1);
    x.lift(0, 1);
    wheres(x, 0, 2, 0, 0, 0, 50, 1, 0, 1, 0, 0);
    x.set(0, 0);
    x.set(1, 1);
    x.lift(1, 0);
    x.load(1);
    wheres(x, 0, 3, 1, 5, 0, 50, 1, 0, 1, 0, 0);
    x.lift(1, 1);
    Check.due("load", x.load(1) > 0 ? 1 : 0, 1);
    wheres(x, 1, 3, 1, 11, 0, 60, 1, 1, 1, 1, 5);
    x.fetch(1, 1, 2, 1);
    x.drop(1);
    wheres(x, 1, 4, 0, 0, 0, 60, 1, 1, 1, 1, 5);
    for (int w : WILD) {
      Check.due("where(" + w + ", 0)", x.where(w, 0), -1);
      Check.due("where(0, " + w + ")", x.where(0, w), -2);
    }
    Check.due("where(2, 99): UNKNOWN is first", x.where(2, 99), -1);
    Check.due("where(0, 10)", x.where(0, 10), -2);
  }

  private static void wheres(BoxYard x, int box, long... want) {
    long[] got = new long[10];
    for (int what = 0; what < 10; what++) got[what] = x.where(box, what);
    Check.dues("where(" + box + ", 0 .. 9)", got, want);
  }
}
