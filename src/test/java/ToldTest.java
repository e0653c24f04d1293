/** Promises 44 to 50: status, found, trace, undo, back, count, clear. */
public final class ToldTest {
  private static final long FACTOR = 0x9E3779B97F4A7C15L;

  public static void main(String[] args) {
    status();
    found();
    trace();
    hundredMarks();
    undoOfEach();
    undoWhateverRulesSay();
    sixtyActs();
    numbersAreNeverGivenTwice();
    back();
    backWithLaterOnes();
    counts();
    clear();
    clearOfAll();
    Check.end();
  }

  private static long digest(long... row) {
    long h = 17;
    for (long n : row) {
      h = (h ^ n) * FACTOR;
      h = h ^ (h >>> 29);
    }
    return h;
  }

  /** Promise 44. */
  private static void status() {
    BoxYard x = new BoxYard();
    x.bay(0, 0, 1);
    x.crane(3, -9, 0);
    x.box(0, 1, 1, 0, 0);
    x.box(0, 1, 1, 0, 0);
    x.go(7, 0);
    Check.due("UNKNOWN", x.status(), -1);
    x.go(0, 77);
    Check.due("OUTSIDE", x.status(), -2);
    x.drop(0);
    Check.due("STATE", x.status(), -3);
    x.lift(0, 5);
    Check.due("a FINDING", x.status(), -62);
    x.body(0, 3);
    x.engine(0, 2);
    x.share(7);
    x.may(0, 0);
    x.run(0);
    x.undo();
    x.crane(9, 9, 9);
    Check.due("others have no say", x.status(), -62);
    x.take(0, 0);
    Check.due("it was done", x.status(), 0);
    x.wind(60);
    x.set(0, 0);
    Check.due("a RULE", x.status(), -46);
    x.serve(0);
    Check.due("serve is an ACT", x.status(), -1);
    x.ship(1, 1, 1, 0);
    x.serve(0);
    Check.due("serve is an ACT", x.status(), -3);
    x.route(0, 1);
    x.route(0, 2);
    x.serve(0);
    Check.due("it was done", x.status(), 0);
    x.go(0, 1);
    x.undo();
    Check.due("undo has no say", x.status(), -46);
  }

  /** Promise 45: each FINDING by each call that answers it. */
  private static void found() {
    BoxYard x = new BoxYard();
    for (int w : new int[] {Integer.MIN_VALUE, -1, 0, 8, Integer.MAX_VALUE}) Check.due("found(" + w + ")", x.found(w), -1);
    x.crane(3, -9, 0);
    x.crane(1, 0, 0);
    x.box(0, 1, 1, 0, 0);
    x.box(3, 1, 1, 0, 0);
    x.ship(1, 1, 1, 0);
    x.lift(0, 0);
    x.take(0, 0);
    x.set(0, 0);
    x.share(0);
    finds(x, 3, 0, 0, 0, 0, 0, 0);
    x.bay(0, 1, 1);
    x.set(0, 1);
    x.lift(1, 1);
    x.fetch(1, 0, 1, 0);
    finds(x, 3, 3, 0, 0, 0, 0, 0);
    x.lift(1, 0);
    x.fetch(1, 0, 0, 0);
    finds(x, 3, 3, 2, 0, 0, 0, 0);
    x.set(0, 0);
    x.load(0);
    x.engine(0, 2);
    x.body(0, 3);
    finds(x, 3, 3, 2, 1, 3, 0, 0);
    x.share(0);
    x.mean(0);
    finds(x, 3, 3, 2, 1, 3, 2, 0);
    x.take(1, 1);
    x.load(1);
    x.plan(1, 0, 1, 1, 1);
    x.load(1);
    x.plan(1, 0, 0, 0, 1);
    x.load(1);
    finds(x, 3, 5, 3, 1, 3, 2, 0);
    x.task();
    x.op(0, 6, 128, 0);
    x.op(0, 12, 0, 0);
    x.run(0);
    x.run(0);
    finds(x, 3, 5, 3, 1, 3, 2, 2);
    x.may(0, 0);
    x.may(0, 9);
    x.stable(0);
    x.undo();
    finds(x, 3, 5, 3, 1, 3, 2, 2);
  }

  private static void finds(BoxYard x, long... want) {
    long[] got = new long[7];
    for (int f = 1; f <= 7; f++) got[f - 1] = x.found(f);
    Check.dues("found(1 .. 7)", got, want);
  }

  /** Promise 46. */
  private static void trace() {
    BoxYard x = new BoxYard();
    x.box(4, 1, 1, 0, 0);
    x.crane(3, -9, 0);
    x.ship(1, 1, 1, 0);
    x.task();
    x.body(0, 2);
    Check.dues("marks", new long[] {x.trace(-1), x.trace(0), x.trace(1), x.trace(2), x.trace(3)}, -9, 25, 24, 20, -9);
    Check.due("far", x.trace(Integer.MAX_VALUE), -9);
    Check.due("far", x.trace(Integer.MIN_VALUE), -9);
    x.undo();
    x.where(0, 0);
    x.look(0, 0);
    x.stable(0);
    x.mean(0);
    x.wind(1);
    x.back(0);
    x.box(0, 1, 1, 0, 0);
    x.share(0);
    Check.due("others leave it", x.count(7), 3);
    for (int i = 0; i < 11; i++) {
      x.body(0, 2);
      switch (i) {
        case 0: x.run(0); break;
        case 1: x.run(1); break;
        case 2: x.serve(0); break;
        case 3: x.serve(9); break;
        case 4: x.go(9, 0); break;
        case 5: x.take(0, 9); break;
        case 6: x.lift(9, 0); break;
        case 7: x.set(0, 0); break;
        case 8: x.drop(0); break;
        case 9: x.load(0); break;
        default: x.fetch(0, 9, 0, 0); break;
      }
      Check.due("one that is refused, or asks no body: none (" + i + ")", x.count(7), 0);
    }
  }

  private static void hundredMarks() {
    BoxYard x = new BoxYard();
    x.crane(4, -9, 0);
    x.task();
    x.op(0, 1, 0, 0);
    for (int i = 0; i < 9; i++) x.op(0, 8, 1, 0);
    x.run(0);
    Check.due("27 marks", x.count(7), 27);
    Check.due("the last one", x.trace(26), 57);
    // A STACK of four and one more: STOP 1, REACHES 1, BEARS 2 * 4, TALL 2 * 4 and 1.
    x.bay(0, 0, 5);
    x.crane(0, 0, 0);
    for (int i = 0; i < 5; i++) {
      x.box(2, 1, 1, 0, 0);
      x.take(1, i);
      x.set(1, 0);
    }
    Check.dues("marks", Check.marks(x), 51, 61, 3, 1, 3, 1, 3, 1, 3, 1, 10, 17, 10, 17, 10, 17, 10, 17, 10, 17);
  }

  /** Promise 47: each ACT, undone, leaves what was before it. */
  private static void undoOfEach() {
    BoxYard x = new BoxYard();
    x.bay(1, 0, 33);
    x.crane(1, 0, 0);
    x.ship(2, 1, 1, 1);
    x.route(0, 1);
    x.route(0, 2);
    x.box(0, 10, 20, 0, 2);
    x.plan(0, 0, 1, 0, 0);
    int[] acts = {1, 0, 2, 3, 0, 4, 5, 6, 0, 7};
    long[] before = new long[acts.length + 1];
    for (int i = 0; i < acts.length; i++) {
      before[i] = x.back(0);
      int answer = 0;
      switch (acts[i]) {
        case 0: answer = x.go(0, x.look(0, 0) == 0 ? 1 : 0); break;
        case 1: answer = x.take(0, 0); break;
        case 2: answer = x.set(0, 1); break;
        case 3: answer = x.lift(0, 1); break;
        case 4: answer = x.look(0, 0) == 1 ? 0 : x.go(0, 1); break;
        case 5: answer = x.load(0); break;
        case 6: answer = x.fetch(0, 0, 1, 0); break;
        default: answer = x.drop(0); break;
      }
      Check.due("act " + i, answer, i + 1);
    }
    Check.due("DIGS", x.sum(0, 4), 1);
    before[acts.length] = x.back(0);
    Check.due("serve", x.serve(0), acts.length + 1);
    Check.due("undo", x.undo(), acts.length + 1);
    Check.due("as before", x.back(0), before[acts.length]);
    Check.due("SERVED", x.sum(0, 5), 1);
    for (int i = acts.length - 1; i >= 0; i--) {
      Check.due("back(1)", x.back(1), before[i]);
      Check.due("undo", x.undo(), i + 1);
      Check.due("as before act " + i, x.back(0), before[i]);
      Check.due("ACTS in the journal", x.count(3), i);
      if (i == 3) Check.due("it is in its STACK", x.stack(1, 1, 0), 0);
      if (i == 2) Check.due("it is at its CRANE", x.look(0, 1), 0);
      if (i == 7) Check.due("it is in its SHIP", x.sum(0, 6) * 10 + x.sum(0, 4), 10);
      if (i == 9) Check.due("the CRANE has it again", x.look(0, 1), 0);
    }
    Check.dues("the BOX", new long[] {x.where(0, 0), x.where(0, 4), x.where(0, 5), x.where(0, 6), x.where(0, 7)}, 0, 10, 0, 0, 0);
    Check.due("BOXES that are WRONG", x.count(5), 0);
    Check.due("LIFTS", x.look(0, 2), 0);
    Check.due("there is none", x.undo(), -3);
    Check.due("taken anew", x.take(0, 0), acts.length + 2);
    Check.due("WRONG anew", x.count(5), 1);
  }

  private static void undoWhateverRulesSay() {
    BoxYard x = new BoxYard();
    x.bay(0, 0, 22);
    x.crane(3, -9, 0);
    x.box(1, 1, 1, 1, 0);
    x.box(0, 1, 1, 1, 0);
    x.plugs(0, 0, 1);
    x.take(0, 1);
    x.set(0, 1);
    x.take(0, 0);
    x.set(0, 0);
    x.lift(0, 0);
    x.go(0, 5);
    x.plugs(0, 0, 0);
    x.apart(1, 1, 6);
    x.wind(60);
    Check.due("undo", x.undo(), 6);
    Check.due("its PLACE", x.look(0, 0), 0);
    Check.due("undo", x.undo(), 5);
    Check.due("in its STACK", x.stack(0, 0, 0), 0);
    Check.due("no FAIL", x.look(0, 3), 0);
    Check.due("undo", x.undo(), 4);
    Check.due("undo", x.undo(), 3);
    Check.due("at THE GATE", x.where(0, 0), 0);
  }

  private static void sixtyActs() {
    BoxYard x = new BoxYard();
    x.crane(3, -9, 0);
    for (int i = 1; i <= 75; i++) {
      Check.due("go", x.go(0, i % 10), i);
      Check.due("ACTS", x.count(3), Math.min(i, 60));
    }
    Check.due("back(60)", x.back(60), digest(5, -1, 0));
    Check.due("back(61)", x.back(61), -1);
    for (int i = 75; i > 15; i--) Check.due("undo", x.undo(), i);
    Check.due("undo", x.undo(), -3);
    Check.due("PLACE", x.look(0, 0), 5);
    Check.due("ACTS", x.count(3), 0);
    for (int i = 76; i <= 140; i++) x.go(0, i % 10);
    for (int i = 140; i > 80; i--) Check.due("undo", x.undo(), i);
    Check.due("undo", x.undo(), -3);
    Check.due("PLACE", x.look(0, 0), 0);
  }

  private static void numbersAreNeverGivenTwice() {
    BoxYard x = new BoxYard();
    x.crane(3, -9, 0);
    Check.due("go", x.go(0, 1), 1);
    Check.due("go", x.go(0, 2), 2);
    Check.due("undo", x.undo(), 2);
    Check.due("the last NUMBER", x.count(4), 2);
    Check.due("go", x.go(0, 3), 3);
    x.go(0, 99);
    x.wind(60);
    x.go(0, 1);
    Check.due("what is not done gets none", x.count(4), 3);
    Check.due("undo", x.undo(), 3);
    Check.due("undo", x.undo(), 1);
    Check.due("PLACE", x.look(0, 0), 0);
  }

  /** Promise 48. */
  private static void back() {
    BoxYard x = new BoxYard();
    Check.due("nothing", x.back(0), 17);
    x.bay(0, 0, 2);
    x.crane(0, 0, 0);
    x.crane(3, -9, 4);
    x.box(0, 30, 44, 0, 0);
    x.box(0, 50, 50, 0, 0);
    x.ship(1, 1, 1, 0);
    long at0 = digest(0, 0, 0, 0, 30, 0, 0, 0, 0, 50, 0, -1, 0, 4, -1, 0, 0, 0);
    long at1 = digest(2, 0, 0, 0, 44, 0, 0, 0, 0, 50, 0, 0, 1, 4, -1, 0, 0, 0);
    long at2 = digest(1, 0, 0, 0, 44, 0, 0, 0, 0, 50, 0, -1, 1, 4, -1, 0, 0, 0);
    long at4 = digest(1, 0, 0, 0, 44, 1, 0, 0, 1, 50, 0, -1, 2, 4, -1, 0, 0, 0);
    Check.due("back(0)", x.back(0), at0);
    x.take(0, 0);
    Check.due("back(0)", x.back(0), at1);
    x.set(0, 0);
    x.take(0, 1);
    x.set(0, 0);
    long[] got = {x.back(0), x.back(2), x.back(3), x.back(4)};
    Check.dues("back(0, 2, 3, 4)", got, at4, at2, at1, at0);
    for (int w : new int[] {Integer.MIN_VALUE, -1, 5, Integer.MAX_VALUE}) Check.due("back(" + w + ")", x.back(w), -1);
    x.undo();
    x.undo();
    Check.dues("behind undo", new long[] {x.back(0), x.back(1), x.back(2), x.back(3)}, at2, at1, at0, -1);
  }

  private static void backWithLaterOnes() {
    BoxYard x = new BoxYard();
    x.crane(1, 0, 0);
    x.box(0, 30, 44, 0, 3);
    x.take(0, 0);
    x.ship(2, 1, 1, 0);
    x.route(0, 2);
    x.route(0, 3);
    x.plan(0, 0, 1, 0, 0);
    x.load(0);
    x.fetch(0, 0, 1, 0);
    x.drop(0);
    x.box(0, 70, 71, 0, 0);
    x.take(0, 1);
    x.serve(0);
    Check.due("back(0)", x.back(0), digest(4, 0, 0, 0, 44, 2, 0, 0, 0, 71, 0, 1, 3, 1, 1));
    Check.due("back(1)", x.back(1), digest(4, 0, 0, 0, 44, 2, 0, 0, 0, 71, 0, 1, 3, 0, 1));
    Check.due("back(2)", x.back(2), digest(4, 0, 0, 0, 44, 0, 0, 0, 0, 70, 0, -1, 2, 0, 1));
    Check.due("back(3)", x.back(3), digest(2, 0, 0, 0, 44, 0, 0, 0, 0, 70, 0, 0, 2, 0, 1));
    Check.due("back(4)", x.back(4), digest(3, 0, 1, 0, 44, 0, 0, 0, 0, 70, 0, -1, 1, 0, 0));
    Check.due("back(5)", x.back(5), digest(2, 0, 0, 0, 44, 0, 0, 0, 0, 70, 0, 0, 1, 0, 0));
    Check.due("back(6)", x.back(6), digest(0, 0, 0, 0, 30, 0, 0, 0, 0, 70, 0, -1, 0, 0, 0));
    Check.due("back(7)", x.back(7), -1);
  }

  /** Promise 49. */
  private static void counts() {
    BoxYard x = new BoxYard();
    x.bay(0, 0, 22);
    x.crane(3, -9, 0);
    x.crane(0, 0, 0);
    for (int i = 0; i < 5; i++) x.box(0, 10, 10 + i % 2, 0, 0);
    x.ship(1, 1, 1, 0);
    x.task();
    x.task();
    x.task();
    for (int i = 0; i < 4; i++) {
      x.take(0, i);
      x.set(0, i / 2);
    }
    x.undo();
    x.wind(20);
    x.drop(0);
    for (int i = 0; i < 2; i++) x.want(i);
    x.wind(0);
    x.go(0, 0);
    x.wind(20);
    long[] got = new long[11];
    x.least(0);
    for (int what = 0; what <= 10; what++) got[what] = x.count(what);
    Check.dues("count(0 .. 10)", got, 5, 2, 1, 9, 10, 2, 3, 2, 3, 20, 2);
    for (int w : new int[] {Integer.MIN_VALUE, -1, 11, Integer.MAX_VALUE}) Check.due("count(" + w + ")", x.count(w), -2);
  }

  /** Promise 50. */
  private static void clear() {
    BoxYard x = new BoxYard();
    x.crane(3, -9, 0);
    x.box(0, 1, 1, 0, 0);
    x.box(0, 1, 1, 0, 0);
    x.go(0, 1);
    Check.due("clear", x.clear(), 2);
    Check.due("clear", x.clear(), 0);
    Check.due("the last NUMBER", x.count(4), 1);
    Check.due("nothing is there", x.go(0, 1), -1);
    Check.due("nothing to undo", x.undo(), -3);
    x.crane(3, -9, 0);
    Check.due("NUMBERS go on", x.go(0, 1), 2);
  }

  /** Everything that can be told, then clear(): each call answers as a new object's does, and again when it is filled anew. */
  private static void clearOfAll() {
    BoxYard x = cleared();
    Check.dues("behind clear()", asked(x), asked(new BoxYard()));
    BoxYard y = cleared();
    BoxYard fresh = new BoxYard();
    fill(y);
    fill(fresh);
    Check.dues("filled again", asked(y), asked(fresh));
    BoxYard z = cleared();
    fresh = new BoxYard();
    lay(z);
    lay(fresh);
    Check.dues("laid anew", asked(z), asked(fresh));
  }

  private static BoxYard cleared() {
    BoxYard x = new BoxYard();
    fill(x);
    Check.due("clear", x.clear(), 7);
    return x;
  }

  /** The same things as fill() has, with nothing done to them. */
  private static void lay(BoxYard x) {
    x.bay(0, 0, 222);
    x.crane(1, 0, 0);
    x.crane(0, 0, 5);
    x.ship(2, 2, 2, 0);
    for (int i = 0; i < 8; i++) x.box(0, 10, 20, 0, 0);
    x.task();
    x.run(0);
    x.take(0, 7);
    x.set(0, 1);
    x.least(0);
    x.want(7);
    x.go(0, 1);
    x.stable(0);
    x.serve(0);
  }

  private static void fill(BoxYard x) {
    x.bay(0, 0, 222);
    x.plugs(0, 0, 2);
    x.apart(1, 1, 2);
    x.rail(0, 3);
    x.crane(1, 0, 0);
    x.crane(0, 0, 5);
    x.ship(2, 2, 2, 0);
    x.limit(0, 0, 900);
    x.route(0, 3);
    x.route(0, 4);
    for (int i = 0; i < 7; i++) x.box(i % 6, 10, 20, i % 2, 4);
    x.plan(0, 0, 0, 0, 0);
    x.plan(1, 0, 1, 1, 3);
    x.take(0, 0);
    x.load(0);
    x.fetch(0, 0, 0, 0);
    x.load(0);
    x.take(0, 1);
    x.set(0, 0);
    x.want(1);
    x.least(0);
    x.stable(0);
    x.serve(0);
    x.task();
    x.op(0, 0, 1, 0);
    x.op(0, 10, 0, 1);
    x.op(0, 6, 7, 0);
    x.op(0, 12, 1, 0);
    x.op(0, 9, 7, 0);
    x.run(0);
    x.wind(9);
    x.take(0, 2);
    x.go(1, 9);
    x.go(1, 1);
    x.set(0, 9);
  }

  private static long[] asked(BoxYard x) {
    java.util.ArrayList<Long> got = new java.util.ArrayList<>();
    for (int what = 0; what <= 10; what++) if (what != 4) got.add((long) x.count(what));
    for (int f = 1; f <= 7; f++) got.add((long) x.found(f));
    for (int what = 0; what <= 3; what++) got.add((long) x.ran(what));
    for (int what = 0; what <= 2; what++) got.add((long) x.broke(what));
    for (int s = 0; s <= 3; s++) for (int p = 0; p <= 7; p++) got.add((long) x.shelf(s, p));
    for (int b = 0; b <= 7; b++) for (int what = 0; what <= 9; what++) got.add((long) x.where(b, what));
    for (int c = 0; c <= 2; c++) for (int what = 0; what <= 5; what++) got.add((long) x.look(c, what));
    for (int what = 0; what <= 6; what++) got.add((long) x.sum(0, what));
    for (int s = 0; s <= 2; s++) for (int t = 0; t <= 2; t++) got.add((long) x.stack(0, s, t));
    got.add((long) x.status());
    got.add(x.number());
    got.add((long) x.holds());
    got.add((long) x.row(0, 0));
    got.add((long) x.trace(0));
    got.add(x.back(0));
    got.add(x.back(1));
    for (int r = 0; r <= 2; r++) got.add((long) x.rail(r, 1));
    got.add((long) x.plugs(0, 0, 0));
    got.add((long) x.apart(1, 1, 0));
    got.add((long) x.wind(0));
    got.add((long) x.limit(0, 0, 0));
    got.add((long) x.stable(0));
    x.clear();
    return got.stream().mapToLong(Long::longValue).toArray();
  }
}
