/** Promises 38 to 43: task, op, run, number, ran, shelf. */
public final class TasksTest {
  private static final int[] WILD = {Integer.MIN_VALUE, -9, -1, 99, Integer.MAX_VALUE};
  private static final int NO_BAY = 1, BEYOND = 2, NOTHING = 3, FORM = 4, CAST = 5, NOUGHT = 6, SIZE = 7;

  public static void main(String[] args) {
    tasks();
    ops();
    links();
    walks();
    ofBoxes();
    ofCranes();
    divisions();
    keeping();
    keptBehindRuns();
    newRows();
    looking();
    trying();
    tryingRanges();
    lasts();
    lastRanges();
    deep();
    counting();
    wrapping();
    Check.end();
  }

  /** BAY 0 with 0, 1 on STACK 0, 5 on STACK 1; BAY 1 is empty. CRANE 0 has BOX 3, CRANE 1 none. BOXES by KINDS 0 .. 5. */
  private static BoxYard yard() {
    BoxYard x = new BoxYard();
    x.bay(0, 0, 333);
    x.bay(1, 0, 1);
    x.plugs(0, 0, 3);
    x.crane(0, 0, 0);
    x.crane(4, -9, 7);
    for (int kind = 0; kind <= 5; kind++) x.box(kind, 100 + kind, 200 + kind, 2, 0);
    int[] boxes = {0, 1, 5};
    int[] stacks = {0, 0, 1};
    for (int i = 0; i < 3; i++) {
      x.take(0, boxes[i]);
      Check.that("the yard stands", x.set(0, stacks[i]) > 0);
    }
    x.take(0, 3);
    return x;
  }

  /** A TASK of these OPS (kind, a, b each), run: its answer, N, LINK, which, the OP that ended it, OPS begun. */
  private static long[] run(BoxYard x, int... ops) {
    if (x.count(6) == 6) throw new IllegalStateException("one more yard is needed");
    int task = x.task();
    for (int i = 0; i + 2 < ops.length; i += 3) x.op(task, ops[i], ops[i + 1], ops[i + 2]);
    int answer = x.run(task);
    return new long[] {answer, x.number(), x.ran(0), x.ran(1), x.ran(2), x.ran(3)};
  }

  private static void ends(String what, long[] got, long n, long kind, long which, long began) {
    Check.dues(what, got, 1, n, kind, which, -9, began);
  }

  private static void finds(String what, int finding, long[] got, long n, long at, long began) {
    Check.dues(what, new long[] {got[0], got[1], got[4], got[5]}, -60 - finding, n, at, began);
  }

  /** Promise 38. */
  private static void tasks() {
    BoxYard x = new BoxYard();
    for (int i = 0; i < 6; i++) Check.due("task", x.task(), i);
    Check.due("FULL", x.task(), -4);
    Check.due("count(6)", x.count(6), 6);
  }

  /** Promise 39. */
  private static void ops() {
    BoxYard x = new BoxYard();
    Check.due("op", x.op(0, 0, 0, 0), -1);
    x.task();
    x.task();
    for (int w : WILD) {
      Check.due("task " + w, x.op(w, 99, 0, 0), -1);
      Check.due("kind " + w, x.op(0, w, 0, 0), -2);
    }
    Check.due("task 2", x.op(2, 0, 0, 0), -1);
    Check.due("kind 16", x.op(0, 16, 0, 0), -2);
    for (int i = 0; i < 10; i++) Check.due("op", x.op(0, 6 + i, Integer.MIN_VALUE, Integer.MAX_VALUE), i + 1);
    Check.due("FULL", x.op(0, 0, 0, 0), -4);
    Check.due("OUTSIDE is ahead of FULL", x.op(0, -1, 0, 0), -2);
    Check.due("another TASK's", x.op(1, 0, 0, 0), 1);
    Check.due("kind 15", x.op(1, 15, 0, 0), 2);
  }

  /** Promises 40 to 42: OPS 0, 1, 2, 6. */
  private static void links() {
    BoxYard x = yard();
    Check.due("before any", x.ran(3), -9);
    for (int w : WILD) Check.due("run(" + w + ")", x.run(w), -1);
    Check.due("before any", x.ran(0), -9);
    ends("no OP", run(x), 0, -9, -9, 0);
    ends("BOX 5", run(x, 0, 5, 0), 0, 0, 5, 1);
    ends("BOX 6", run(x, 0, 5, 0, 0, 6, 0), 0, -9, -9, 2);
    ends("CRANE 1", run(x, 1, 1, 0), 0, 1, 1, 1);
    ends("CRANE 2", run(x, 1, 2, 0), 0, -9, -9, 1);
    ends("BAY 1", run(x, 2, 1, 0), 0, 2, 1, 1);
    Check.due("a refused run", x.run(6), -1);
    Check.due("it has no say", x.ran(0) * 10 + x.ran(1), 21);
    x = yard();
    ends("BAY 2", run(x, 2, 1, 0, 2, 2, 0), 0, -9, -9, 2);
    ends("BAY 10", run(x, 2, 10, 0), 0, -9, -9, 1);
    ends("BOX -1", run(x, 0, -1, 0), 0, -9, -9, 1);
    ends("N", run(x, 6, Integer.MIN_VALUE, 9), Integer.MIN_VALUE, -9, -9, 1);
    ends("N", run(x, 6, 5, 0, 6, Integer.MAX_VALUE, 0), Integer.MAX_VALUE, -9, -9, 2);
    Check.due("number", x.number(), Integer.MAX_VALUE);
    Check.due("run again", x.run(0) * 100 + x.number(), 100);
    for (int w : new int[] {Integer.MIN_VALUE, -1, 4, Integer.MAX_VALUE}) Check.due("ran(" + w + ")", x.ran(w), -2);
  }

  /** OPS 3, 4, 5. */
  private static void walks() {
    BoxYard x = yard();
    ends("TOP of STACK 0", run(x, 2, 0, 0, 3, 0, 0), 0, 0, 1, 2);
    ends("BELOW it", run(x, 2, 0, 0, 3, 0, 0, 5, 0, 0), 0, 0, 0, 3);
    ends("BELOW that", run(x, 0, 0, 0, 5, 0, 0), 0, -9, -9, 2);
    ends("TOP of an empty one", run(x, 2, 0, 0, 3, 2, 0), 0, -9, -9, 2);
    ends("BELOW one at THE GATE", run(x, 0, 2, 0, 5, 0, 0), 0, -9, -9, 2);
    ends("BELOW one at a CRANE", run(x, 0, 3, 0, 5, 0, 0), 0, -9, -9, 2);
    x = yard();
    ends("HELD", run(x, 1, 0, 0, 4, 0, 0), 0, 0, 3, 2);
    ends("HELD: none", run(x, 1, 1, 0, 4, 0, 0), 0, -9, -9, 2);
    finds("no such STACK", BEYOND, run(x, 2, 0, 0, 3, 3, 0, 6, 1, 0), 0, 1, 2);
    finds("no such STACK", BEYOND, run(x, 2, 0, 0, 3, -1, 0), 0, 1, 2);
    finds("TOP of a BOX", CAST, run(x, 0, 0, 0, 3, 9, 0), 0, 1, 2);
    finds("TOP of none", NOTHING, run(x, 3, 9, 0), 0, 0, 1);
    x = yard();
    finds("HELD of a BAY", CAST, run(x, 2, 0, 0, 4, 0, 0), 0, 1, 2);
    finds("HELD of none", NOTHING, run(x, 4, 0, 0), 0, 0, 1);
    finds("BELOW of a CRANE", CAST, run(x, 1, 0, 0, 5, 0, 0), 0, 1, 2);
    finds("BELOW of none", NOTHING, run(x, 5, 0, 0), 0, 0, 1);
    finds("BELOW of none", NOTHING, run(x, 0, 0, 0, 5, 0, 0, 5, 0, 0), 0, 2, 3);
    finds("TOP of a CRANE", CAST, run(x, 1, 1, 0, 3, 0, 0), 0, 1, 2);
    Check.due("LINK stays", x.ran(0) * 10 + x.ran(1), 11);
  }

  /** OP 7, with the marks of the bodies. */
  private static void ofBoxes() {
    BoxYard x = yard();
    ends("BEARS", run(x, 0, 2, 0, 7, 0, 0), 225, 0, 2, 2);
    Check.dues("marks", Check.marks(x), 3, 1);
    ends("TALL, FEE", run(x, 0, 4, 0, 7, 1, 0, 7, 2, 0), 3 + 60, 0, 4, 3);
    Check.dues("marks", Check.marks(x), 15, 10, 17, 25, 24, 20);
    ends("WATTS", run(x, 0, 1, 0, 6, 1000, 0, 7, 3, 0), 1006, 0, 1, 3);
    ends("KNOWN", run(x, 0, 1, 0, 7, 4, 0, 0, 2, 0, 7, -1, 0), 201 + 102, 0, 2, 4);
    finds("WATTS of TANK", CAST, run(x, 0, 2, 0, 6, 5, 0, 7, 3, 0), 5, 2, 3);
    finds("of a CRANE", CAST, run(x, 1, 0, 0, 7, 0, 0), 0, 1, 2);
    x = yard();
    finds("of none", NOTHING, run(x, 7, 4, 0), 0, 0, 1);
    finds("of a BAY", CAST, run(x, 2, 0, 0, 7, 4, 0), 0, 1, 2);
    x.body(0, 0);
    ends("KNOWN leaves no mark", run(x, 0, 0, 0, 7, 99, 0), 200, 0, 0, 2);
    Check.due("none", x.count(7), 0);
    x.body(0, 0);
    x.run(99);
    Check.due("a refused run: none", x.count(7), 0);
  }

  /** OP 8. */
  private static void ofCranes() {
    BoxYard x = yard();
    ends("LOAD", run(x, 1, 1, 0, 8, 0, 0), 250, 1, 1, 2);
    Check.dues("marks", Check.marks(x), 45, 44);
    ends("STOP", run(x, 1, 1, 0, 8, 1, 0, 8, 1, 0), 44, 1, 1, 3);
    Check.dues("marks", Check.marks(x), 55, 50, 57, 55, 50, 57);
    ends("PLACE", run(x, 1, 1, 0, 8, 2, 0, 8, -5, 0), 14, 1, 1, 3);
    Check.due("no marks", x.count(7), 0);
    finds("of a BOX", CAST, run(x, 0, 0, 0, 8, 0, 0), 0, 1, 2);
    finds("of a BAY", CAST, run(x, 2, 0, 0, 8, 0, 0), 0, 1, 2);
    finds("of none", NOTHING, run(x, 8, 0, 0), 0, 0, 1);
  }

  /** OP 9. */
  private static void divisions() {
    BoxYard x = yard();
    ends("/ 3", run(x, 6, 11, 0, 2, 0, 0, 9, 0, 0), 3, 2, 0, 3);
    ends("/ 3, toward 0", run(x, 6, -11, 0, 2, 0, 0, 9, 0, 0), -3, 2, 0, 3);
    finds("NOUGHT", NOUGHT, run(x, 6, 11, 0, 2, 1, 0, 9, 0, 0), 11, 2, 3);
    finds("of a BOX", CAST, run(x, 0, 0, 0, 9, 0, 0), 0, 1, 2);
    finds("of a CRANE", CAST, run(x, 1, 0, 0, 9, 0, 0), 0, 1, 2);
    finds("of none", NOTHING, run(x, 9, 0, 0), 0, 0, 1);
  }

  /** OPS 10, 11. */
  private static void keeping() {
    BoxYard x = yard();
    ends("KEEP, FROM", run(x, 0, 2, 0, 10, 0, 2, 0, 9, 0, 11, 0, 2), 0, 0, 2, 4);
    Check.due("shelf", x.shelf(0, 2), 2);
    ends("of CRANES", run(x, 1, 1, 0, 10, 3, 0, 11, 3, 0), 0, 1, 1, 3);
    Check.due("shelf", x.shelf(3, 0), 1);
    ends("FROM an empty place", run(x, 1, 1, 0, 11, 3, 1), 0, -9, -9, 2);
    ends("KEEP none", run(x, 10, 0, 2, 10, 3, 0, 10, 1, 0, 10, 2, 0), 0, -9, -9, 4);
    Check.due("shelf", x.shelf(0, 2) + x.shelf(3, 0), -18);
    finds("SHELF is ahead of all", BEYOND, run(x, 2, 0, 0, 10, 4, 0), 0, 1, 2);
    finds("SHELF is ahead of all", BEYOND, run(x, 2, 0, 0, 10, -1, 9), 0, 1, 2);
    x = yard();
    finds("a BAY", CAST, run(x, 2, 0, 0, 10, 0, 9), 0, 1, 2);
    finds("a CRANE", CAST, run(x, 1, 0, 0, 10, 0, 0), 0, 1, 2);
    finds("a BOX", CAST, run(x, 0, 0, 0, 10, 3, 0), 0, 1, 2);
    finds("the place is ahead of FORM", BEYOND, run(x, 0, 3, 0, 10, 1, 3), 0, 1, 2);
    finds("the place", BEYOND, run(x, 10, 1, -1), 0, 0, 1);
    finds("the place", BEYOND, run(x, 11, 1, 3), 0, 0, 1);
    x = yard();
    finds("FROM: the SHELF", BEYOND, run(x, 11, 4, 0), 0, 0, 1);
    finds("FROM: the SHELF", BEYOND, run(x, 11, Integer.MIN_VALUE, 0), 0, 0, 1);
    boolean[][] takes = {{true, true, true, true, true, true}, {true, true, true, false, false, true}, {false, true, false, false, false, false}};
    for (int shelf = 0; shelf <= 2; shelf++) {
      for (int kind = 0; kind <= 5; kind++) {
        x = yard();
        long[] got = run(x, 0, kind, 0, 10, shelf, 1);
        if (takes[shelf][kind]) ends("KEEP " + kind + " on " + shelf, got, 0, 0, kind, 2);
        else finds("KEEP " + kind + " on " + shelf, FORM, got, 0, 1, 2);
        Check.due("shelf", x.shelf(shelf, 1), takes[shelf][kind] ? kind : -9);
      }
    }
  }

  /** Promise 43. */
  private static void keptBehindRuns() {
    BoxYard x = yard();
    finds("a run that ends by a FINDING", CAST, run(x, 0, 4, 0, 10, 0, 0, 4, 0, 0), 0, 2, 3);
    Check.due("SHELVES keep what was laid", x.shelf(0, 0), 4);
    ends("another run takes it", run(x, 11, 0, 0), 0, 0, 4, 1);
    x.undo();
    Check.due("undo has no say", x.shelf(0, 0), 4);
    for (int w : WILD) {
      Check.due("shelf " + w, x.shelf(w, 0), -1);
      Check.due("place " + w, x.shelf(0, w), -1);
    }
    Check.due("shelf 4", x.shelf(4, 0), -1);
    Check.due("place 3", x.shelf(0, 3), -1);
    x.clear();
    Check.due("clear", x.shelf(0, 0), -9);
  }

  /** OP 12. */
  private static void newRows() {
    BoxYard x = yard();
    ends("5 places", run(x, 0, 1, 0, 10, 2, 0, 6, 5, 0, 12, 2, 0, 10, 2, 4), 5, 0, 1, 5);
    Check.due("the last place", x.shelf(2, 4), 1);
    Check.due("it is empty else", x.shelf(2, 0), -9);
    Check.due("behind it", x.shelf(2, 5), -1);
    ends("none", run(x, 12, 2, 0), 0, -9, -9, 1);
    Check.due("none", x.shelf(2, 0), -1);
    ends("127", run(x, 6, 127, 0, 12, 3, 0), 127, -9, -9, 2);
    Check.due("place 126", x.shelf(3, 126), -9);
    Check.due("place 127", x.shelf(3, 127), -1);
    finds("128 is -128", SIZE, run(x, 6, 128, 0, 12, 3, 0), 128, 1, 2);
    Check.due("it stays", x.shelf(3, 126), -9);
    finds("-1", SIZE, run(x, 6, -1, 0, 12, 3, 0), -1, 1, 2);
    finds("SHELF is ahead of SIZE", BEYOND, run(x, 6, -1, 0, 12, 4, 0), -1, 1, 2);
    x = yard();
    ends("256 is 0", run(x, 6, 256, 0, 12, 0, 0), 256, -9, -9, 2);
    Check.due("none", x.shelf(0, 0), -1);
    ends("-254 is 2", run(x, 6, -254, 0, 12, 0, 0), -254, -9, -9, 2);
    Check.due("2 places", x.shelf(0, 1) * 10 + x.shelf(0, 2), -91);
    finds("SHELF -1", BEYOND, run(x, 12, -1, 0), 0, 0, 1);
    ends("kept, then a longer one: empty", run(x, 0, 3, 0, 10, 0, 1, 6, 4, 0, 12, 0, 0, 11, 0, 1), 4, -9, -9, 5);
    ends("kept, then a shorter one", run(x, 0, 3, 0, 10, 0, 3, 6, 1, 0, 12, 0, 0, 6, 4, 0, 12, 0, 0, 11, 0, 3), 4, -9, -9, 7);
    x.clear();
    Check.due("3 places again", x.shelf(0, 2) * 10 + x.shelf(0, 3), -91);
    Check.due("3 places again", x.shelf(2, 2) * 10 + x.shelf(2, 3), -91);
  }

  /** OP 13. */
  private static void looking() {
    boolean[][] is = {
      {true, true, true, false, false, true},
      {false, true, false, false, false, false},
      {false, false, true, false, false, false},
      {false, false, false, true, true, false},
      {false, false, false, false, true, false},
      {false, false, false, false, false, true},
      {true, true, true, true, true, true},
      {false, false, false, false, false, false},
      {true, true, true, true, true, true}};
    for (int a = 0; a <= 8; a++) {
      BoxYard x = yard();
      for (int kind = 0; kind <= 5; kind++) {
        long[] got = run(x, 0, kind, 0, 13, a, 0);
        if (is[a][kind]) ends("AS " + a + " of " + kind, got, 0, 0, kind, 2);
        else finds("AS " + a + " of " + kind, CAST, got, 0, 1, 2);
      }
      x = yard();
      long[] none = run(x, 13, a, 0);
      ends("AS " + a + " of none", none, 0, -9, -9, 1);
      long[] crane = run(x, 1, 0, 0, 13, a, 0);
      if (a >= 7) ends("AS " + a + " of a CRANE", crane, 0, 1, 0, 2);
      else finds("AS " + a + " of a CRANE", CAST, crane, 0, 1, 2);
      long[] bay = run(x, 2, 0, 0, 13, a, 0);
      if (a == 8) ends("AS " + a + " of a BAY", bay, 0, 2, 0, 2);
      else finds("AS " + a + " of a BAY", CAST, bay, 0, 1, 2);
    }
    BoxYard x = yard();
    ends("AS -1", run(x, 2, 0, 0, 13, -1, 0), 0, 2, 0, 2);
  }

  /** OP 14. */
  private static void trying() {
    BoxYard x = yard();
    ends("any", run(x, 14, 2, 0, 3, 0, 0, 6, 77, 0, 0, 1, 0), NOTHING, 0, 1, 3);
    ends("that one", run(x, 14, 1, NOTHING, 3, 0, 0), NOTHING, -9, -9, 2);
    finds("another one", NOTHING, run(x, 6, 9, 0, 14, 1, CAST, 3, 0, 0, 6, 1, 0), 9, 2, 3);
    finds("not -3", NOTHING, run(x, 14, 1, -NOTHING, 3, 0, 0), 0, 1, 2);
    ends("none comes", run(x, 14, 1, 0, 6, 8, 0, 0, 1, 0), 8, 0, 1, 3);
    finds("it came behind", NOTHING, run(x, 14, 1, 0, 6, 8, 0, 3, 0, 0), 8, 2, 3);
    x = yard();
    ends("NOUGHT", run(x, 2, 1, 0, 14, 1, 6, 9, 0, 0), NOUGHT, 2, 1, 3);
    ends("SIZE", run(x, 6, -1, 0, 14, 1, 7, 12, 0, 0), SIZE, -9, -9, 3);
    ends("FORM", run(x, 0, 3, 0, 14, 1, 4, 10, 1, 0), FORM, 0, 3, 3);
    ends("the inner one", run(x, 14, 3, 0, 14, 1, CAST, 3, 0, 0, 6, 9, 0, 6, 7, 0), 7, -9, -9, 4);
    ends("the outer one goes on", run(x, 14, 3, 0, 14, 1, NOTHING, 3, 0, 0, 6, 9, 0), 9, -9, -9, 4);
    finds("neither", NOTHING, run(x, 14, 3, SIZE, 14, 1, CAST, 3, 0, 0, 6, 9, 0), 0, 2, 3);
    Check.due("what is ended is not counted", x.found(NOTHING) * 10 + x.found(NOUGHT) + x.found(SIZE) + x.found(FORM), 10);
  }

  private static void tryingRanges() {
    BoxYard x = yard();
    finds("a = 0", NOTHING, run(x, 14, 0, 0, 3, 0, 0), 0, 1, 2);
    finds("a below 0", NOTHING, run(x, 14, Integer.MIN_VALUE, 0, 3, 0, 0), 0, 1, 2);
    ends("a beyond the end", run(x, 14, Integer.MAX_VALUE, 0, 6, 1, 0, 3, 0, 0), NOTHING, -9, -9, 3);
    finds("it ends where the outer one does", NOTHING, run(x, 14, 1, 0, 14, 9, 0, 3, 0, 0), 0, 2, 3);
    ends("the last OP", run(x, 14, 5, 0), 0, -9, -9, 1);
    ends("it ends where the outer one does", run(x, 14, 2, 0, 14, 9, NOTHING, 3, 0, 0, 6, 50, 0), 50, -9, -9, 4);
  }

  /** OP 15. */
  private static void lasts() {
    BoxYard x = yard();
    ends("none comes", run(x, 15, 1, 1, 6, 1, 0, 0, 1, 0, 7, 4, 0), 202, 0, 1, 4);
    finds("the b OPS too, then it goes on", NOTHING, run(x, 15, 2, 1, 3, 0, 0, 6, 1, 0, 6, 5, 0, 6, 9, 0), 5, 1, 3);
    finds("one of the b OPS", CAST, run(x, 15, 0, 2, 0, 1, 0, 3, 0, 0, 6, 9, 0), 0, 2, 3);
    finds("one of the b OPS in its place", SIZE, run(x, 15, 2, 3, 3, 0, 0, 6, 1, 0, 6, -1, 0, 12, 0, 0, 6, 3, 0), -1, 4, 4);
    ends("TRY around it", run(x, 14, 3, NOTHING, 15, 1, 1, 3, 0, 0, 0, 1, 0, 6, 6, 0), 6, 0, 1, 5);
    finds("TRY around it, of the first", NOTHING, run(x, 14, 4, SIZE, 15, 1, 1, 3, 0, 0, 0, 1, 0), 0, 2, 4);
    x = yard();
    ends("TRY in it", run(x, 15, 2, 1, 14, 1, 0, 3, 0, 0, 0, 1, 0), NOTHING, 0, 1, 4);
    ends("N of the b OPS is not kept over TRY", run(x, 14, 3, 0, 15, 1, 1, 3, 0, 0, 6, 9, 0), NOTHING, -9, -9, 4);
    finds("a LAST in the b OPS", NOTHING, run(x, 15, 1, 3, 3, 0, 0, 15, 1, 1, 6, 2, 0, 6, 4, 0), 4, 1, 5);
    finds("in place of it, both", CAST, run(x, 0, 0, 0, 15, 1, 1, 7, 3, 0, 3, 0, 0), 0, 3, 4);
  }

  private static void lastRanges() {
    BoxYard x = yard();
    ends("a below 0", run(x, 15, -5, 1, 6, 4, 0), 4, -9, -9, 2);
    finds("b below 0", NOTHING, run(x, 15, 1, -5, 3, 0, 0, 6, 4, 0), 0, 1, 2);
    finds("a beyond the end", NOTHING, run(x, 15, 99, 99, 3, 0, 0, 6, 4, 0), 0, 1, 2);
    finds("b beyond the end", NOTHING, run(x, 15, 1, Integer.MAX_VALUE, 3, 0, 0, 6, 4, 0, 6, 5, 0), 5, 1, 4);
    ends("b ends where the outer one does", run(x, 14, 2, 0, 15, 1, 9, 3, 0, 0, 6, 4, 0), 4, -9, -9, 4);
    finds("it goes on behind its b OPS", NOTHING, run(x, 15, 1, 1, 6, 4, 0, 6, 5, 0, 3, 0, 0), 5, 3, 4);
  }

  private static void deep() {
    BoxYard x = yard();
    int[] tries = new int[30];
    for (int i = 0; i < 10; i++) {
      tries[3 * i] = i < 9 ? 14 : 3;
      tries[3 * i + 1] = i < 9 ? 10 : 0;
      tries[3 * i + 2] = i == 0 ? NOTHING : CAST;
    }
    ends("nine TRIES", run(x, tries), NOTHING, -9, -9, 10);
    for (int i = 0; i < 10; i++) tries[3 * i] = i < 9 ? 15 : 3;
    finds("nine LASTS", NOTHING, run(x, tries), 0, 9, 10);
    int[] halves = {15, 1, 9, 15, 1, 9, 15, 1, 9, 15, 1, 9, 15, 1, 9, 15, 1, 9, 15, 1, 9, 15, 1, 9, 15, 1, 9, 6, 3, 0};
    ends("LASTS one behind the other", run(x, halves), 3, -9, -9, 10);
  }

  private static void counting() {
    BoxYard x = yard();
    run(x, 3, 0, 0);
    run(x, 14, 1, 0, 3, 0, 0);
    run(x, 0, 0, 0, 3, 0, 0);
    Check.due("found NOTHING", x.found(NOTHING), 1);
    Check.due("found CAST", x.found(CAST), 1);
    Check.due("run again", x.run(0), -63);
    Check.due("found NOTHING", x.found(NOTHING), 2);
    x.op(0, 6, 1, 0);
    Check.due("an OP more", x.run(0), -63);
    Check.due("no ACT", x.status(), 0);
    Check.due("a yard of its own", x.found(NO_BAY) + x.found(BEYOND), 0);
    int marks = x.task();
    x.op(marks, 0, 1, 0);
    for (int i = 0; i < 9; i++) x.op(marks, 7, i % 3, 0);
    x.run(marks);
    Check.due("marks", x.count(7), 18);
  }

  /** N is a long and wraps. */
  private static void wrapping() {
    BoxYard x = yard();
    ends("above an int", run(x, 0, 0, 0, 6, Integer.MAX_VALUE, 0, 7, 0, 0), Integer.MAX_VALUE + 900L, 0, 0, 3);
    ends("its lowest 8 bits", run(x, 0, 0, 0, 6, Integer.MAX_VALUE, 0, 7, 1, 0, 12, 0, 0), Integer.MAX_VALUE + 2L, 0, 0, 4);
    Check.due("1 place", x.shelf(0, 0) * 10 + x.shelf(0, 1), -91);
  }
}
