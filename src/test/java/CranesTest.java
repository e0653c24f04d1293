/** Promises 10 to 15: rail, crane, wind, engine, look, may. */
public final class CranesTest {
  private static final int[] WILD = {Integer.MIN_VALUE, -10, -1, 12, Integer.MAX_VALUE};

  public static void main(String[] args) {
    gaps();
    gapsAndTheJournal();
    newCranes();
    twelveCranes();
    railsOfNewCranes();
    wind();
    engines();
    berth();
    looks();
    mayIsAsSetting();
    mayChangesNothing();
    Check.end();
  }

  /** Promise 10. */
  private static void gaps() {
    BoxYard x = new BoxYard();
    Check.due("rail", x.rail(0, 4), 1);
    Check.due("rail", x.rail(0, 1), 4);
    Check.due("rail", x.rail(2, 3), 1);
    for (int w : new int[] {Integer.MIN_VALUE, -9, -1, 3, Integer.MAX_VALUE}) Check.due("rail " + w, x.rail(w, 9), -1);
    for (int w : new int[] {Integer.MIN_VALUE, -1, 0, 5, Integer.MAX_VALUE}) Check.due("gap " + w, x.rail(0, w), -2);
    Check.due("as it was", x.rail(0, 1), 1);
    x.crane(0, 0, 2);
    x.crane(3, -9, 3);
    x.crane(1, 0, 5);
    x.crane(2, 1, 6);
    x.crane(2, 0, 9);
    Check.due("4 is too much for 2, 5", x.rail(0, 4), -47);
    Check.due("it stays", x.rail(0, 3), 1);
    Check.due("others have no say", x.rail(1, 4), 1);
    x.go(0, 1);
    Check.due("still the GAP of 5, 9", x.rail(0, 4), 3);
    Check.due("RULE 7 is no ACT's", x.status(), 0);
  }

  private static void gapsAndTheJournal() {
    BoxYard x = new BoxYard();
    x.crane(0, 0, 0);
    x.crane(0, 0, 3);
    x.go(1, 2);
    x.rail(0, 3);
    x.rail(0, 5);
    x.rail(3, 1);
    Check.due("what is refused leaves it", x.count(3), 1);
    x.rail(0, 1);
    Check.due("what it was empties it, too", x.count(3), 0);
    x.go(1, 3);
    x.rail(2, 2);
    Check.due("so does another RAIL's", x.count(3), 0);
    Check.due("NUMBERS go on", x.go(1, 4), 3);
  }

  /** Promise 11. */
  private static void newCranes() {
    BoxYard x = new BoxYard();
    for (int w : new int[] {Integer.MIN_VALUE, -9, -1, 5, Integer.MAX_VALUE}) Check.due("kind " + w, x.crane(w, 99, 99), -2);
    for (int kind = 0; kind <= 2; kind++) {
      for (int w : new int[] {Integer.MIN_VALUE, -9, -1, 3, Integer.MAX_VALUE}) {
        Check.due("kind " + kind + " on rail " + w, x.crane(kind, w, 99), -1);
      }
    }
    for (int kind = 3; kind <= 4; kind++) {
      for (int w : new int[] {Integer.MIN_VALUE, -1, 0, 1, 2, 3}) {
        Check.due("kind " + kind + " on rail " + w, x.crane(kind, w, 99), -1);
      }
    }
    for (int w : new int[] {Integer.MIN_VALUE, -1, 10, Integer.MAX_VALUE}) {
      Check.due("place " + w, x.crane(0, 0, w), -2);
      Check.due("place " + w, x.crane(4, -9, w), -2);
    }
    Check.due("none came", x.count(1), 0);
    Check.due("GANTRY", x.crane(0, 0, 0), 0);
    Check.due("QUAY", x.crane(1, 1, 9), 1);
    Check.due("RAILED", x.crane(2, 2, 5), 2);
    Check.due("STRADDLE", x.crane(3, -9, 9), 3);
    Check.due("REACH", x.crane(4, -9, 0), 4);
    x.go(0, 1);
    Check.due("refused: the journal stays", x.crane(1, 1, 9) + 100 * x.count(3), 53);
    Check.due("a new one empties it", x.crane(3, -9, 0) + 100 * x.count(3), 5);
  }

  private static void twelveCranes() {
    BoxYard x = new BoxYard();
    x.crane(0, 0, 9);
    for (int i = 1; i < 12; i++) Check.due("crane", x.crane(3 + i % 2, -9, i % 10), i);
    Check.due("FULL is ahead of RULE 7", x.crane(0, 0, 0), -4);
    Check.due("FULL", x.crane(3, -9, 0), -4);
    Check.due("OUTSIDE is ahead of FULL", x.crane(3, -9, 10), -2);
    Check.due("UNKNOWN is ahead of FULL", x.crane(3, 0, 0), -1);
    Check.due("count(1)", x.count(1), 12);
  }

  private static void railsOfNewCranes() {
    BoxYard x = new BoxYard();
    x.rail(1, 2);
    Check.due("first", x.crane(2, 1, 4), 0);
    Check.due("before it", x.crane(2, 1, 0), -47);
    Check.due("at it", x.crane(2, 1, 4), -47);
    Check.due("too near", x.crane(2, 1, 5), -47);
    Check.due("another RAIL", x.crane(2, 0, 4), 1);
    Check.due("near enough", x.crane(0, 1, 6), 2);
    Check.due("behind the last one", x.crane(0, 1, 7), -47);
    Check.due("the end", x.crane(0, 1, 8), 3);
    Check.due("RULE 7 is no FAIL", x.look(3, 3), 0);
  }

  /** Promise 12. */
  private static void wind() {
    BoxYard x = new BoxYard();
    Check.due("wind", x.wind(60), 0);
    Check.due("wind", x.wind(0), 60);
    Check.due("wind", x.wind(7), 0);
    for (int w : new int[] {Integer.MIN_VALUE, -1, 61, Integer.MAX_VALUE}) Check.due("wind " + w, x.wind(w), -2);
    Check.due("as it was", x.count(9), 7);
  }

  /** Promise 13: every body of every KIND, with its marks. */
  private static void engines() {
    BoxYard x = new BoxYard();
    for (int kind = 0; kind <= 4; kind++) x.crane(kind, kind <= 2 ? kind : -9, 0);
    engine(x, 0, 0, 300, 41);
    engine(x, 1, 0, 400, 42, 41);
    engine(x, 2, 0, 250, 43, 41);
    engine(x, 3, 0, 200, 44);
    engine(x, 4, 0, 250, 45, 44);
    engine(x, 0, 1, 25, 51);
    engine(x, 1, 1, 20, 52, 51);
    engine(x, 2, 1, 25, 51);
    engine(x, 3, 1, 20, 50, 57);
    engine(x, 4, 1, 22, 55, 50, 57);
    for (int w : WILD) {
      x.engine(0, 0);
      engine(x, w, 0, -1);
      x.engine(0, 0);
      engine(x, 0, w, -2);
    }
    engine(x, 5, 9, -1);
    engine(x, 0, 3, -2);
    for (int f = 1; f <= 7; f++) Check.due("nothing was found", x.found(f), 0);
  }

  private static void engine(BoxYard x, int crane, int what, int want, long... marks) {
    Check.due("engine(" + crane + ", " + what + ")", x.engine(crane, what), want);
    Check.dues("marks of engine(" + crane + ", " + what + ")", Check.marks(x), marks);
  }

  private static void berth() {
    BoxYard x = new BoxYard();
    for (int kind = 0; kind <= 4; kind++) x.crane(kind, kind <= 2 ? kind : -9, 0);
    engine(x, 1, 2, -63);
    for (int c : new int[] {0, 2, 3, 4}) engine(x, c, 2, -65);
    Check.due("found NOTHING", x.found(3), 1);
    Check.due("found CAST", x.found(5), 4);
    x.ship(1, 1, 1, 7);
    x.ship(1, 1, 1, 3);
    x.engine(0, 0);
    engine(x, 1, 2, 7);
    for (int c : new int[] {0, 2, 3, 4}) engine(x, c, 2, -65);
    Check.due("found CAST", x.found(5), 8);
    Check.due("no FAIL", x.look(0, 3), 0);
    Check.due("no ACT", x.status(), 0);
  }

  /** Promise 14. */
  private static void looks() {
    BoxYard x = new BoxYard();
    x.crane(1, 2, 4);
    x.crane(4, -9, 0);
    x.box(0, 5, 5, 0, 0);
    look(x, 0, 4, -9, 0, 0, 1, 2);
    look(x, 1, 0, -9, 0, 0, 1, -9);
    x.take(0, 0);
    look(x, 0, 4, -9, 0, 1, 1, 2);
    x.take(1, 0);
    look(x, 1, 0, 0, 1, 0, 1, -9);
    x.go(1, 6);
    x.drop(1);
    x.set(1, 0);
    look(x, 1, 6, 0, 1, 2, 1, -9);
    x.take(1, 0);
    x.go(1, 10);
    x.take(1, 9);
    look(x, 1, 6, 0, 1, 2, 1, -9);
    x.undo();
    x.undo();
    look(x, 1, 0, -9, 0, 2, 1, -9);
    for (int w : WILD) {
      Check.due("look(" + w + ", 0)", x.look(w, 0), -1);
      Check.due("look(0, " + w + ")", x.look(0, w), -2);
    }
    Check.due("look(2, 9): UNKNOWN is first", x.look(2, 9), -1);
    Check.due("look(0, 6)", x.look(0, 6), -2);
  }

  private static void look(BoxYard x, int crane, long... want) {
    long[] got = new long[6];
    for (int what = 0; what < 6; what++) got[what] = x.look(crane, what);
    Check.dues("look(" + crane + ", 0 .. 5)", got, want);
  }

  /** Promise 15: at every STACK, may() is what set() then answers, and 0 where it is done; their marks are the same. */
  private static void mayIsAsSetting() {
    java.util.Random chance = new java.util.Random(15);
    java.util.TreeSet<Integer> met = new java.util.TreeSet<>();
    for (int run = 0; run < 150; run++) {
      BoxYard x = new BoxYard();
      x.bay(0, chance.nextInt(3) == 0 ? 3 : 0, 245);
      x.bay(1, chance.nextInt(4), 333);
      x.apart(1, 1, 1 + chance.nextInt(2));
      x.apart(1, 2, 1);
      x.plugs(0, 0, 2);
      x.plugs(1, 1, 1);
      int kind = chance.nextInt(5);
      x.crane(kind, kind <= 2 ? 0 : -9, 0);
      for (int i = 0; i < 20; i++) {
        if (x.look(0, 1) == -9) {
          int box = x.box(chance.nextInt(6), 1 + chance.nextInt(190), 1 + chance.nextInt(400), chance.nextInt(4), 0);
          x.take(0, box);
        }
        if (chance.nextInt(8) == 0) x.wind(chance.nextInt(30));
        if (chance.nextInt(3) == 0) x.go(0, chance.nextInt(3));
        int stack = chance.nextInt(5) - 1;
        int may = x.may(0, stack);
        long[] marks = Check.marks(x);
        int fails = x.look(0, 3);
        int set = x.set(0, stack);
        Check.due("may(0, " + stack + ") beside set()", may, Math.min(set, 0));
        Check.dues("marks of set()", Check.marks(x), marks);
        Check.due("FAILS", x.look(0, 3), fails + (set < -9 ? 1 : 0));
        met.add(may);
        if (set > 0 && x.look(0, 0) != 0) x.wind(0);
        if (set > 0) x.go(0, 0);
        if (set < 0 && chance.nextInt(2) == 0) {
          x.wind(0);
          x.go(0, 0);
          x.drop(0);
        }
      }
    }
    Check.that("all that set() can answer was met: " + met,
        met.containsAll(java.util.List.of(0, -41, -42, -43, -44, -46, -48, -61, -62, -64)));
  }

  private static void mayChangesNothing() {
    BoxYard x = new BoxYard();
    x.crane(3, -9, 0);
    x.box(0, 5, 9, 0, 0);
    Check.due("STATE", x.may(0, 0), -3);
    for (int w : WILD) Check.due("may(" + w + ", 0)", x.may(w, 0), -1);
    x.take(0, 0);
    x.go(0, 10);
    long before = x.back(0);
    Check.due("NO BAY", x.may(0, 0), -61);
    Check.dues("its marks", Check.marks(x), 50, 57);
    Check.due("NO BAY", x.may(0, Integer.MIN_VALUE), -61);
    x.wind(21);
    Check.due("RULE 6", x.may(0, 0), -46);
    x.wind(0);
    x.bay(0, 0, 2);
    Check.due("BEYOND", x.may(0, 1), -62);
    Check.due("none", x.may(0, 0), 0);
    Check.dues("its marks", Check.marks(x), 50, 57, 64, 10, 17);
    Check.due("no FAIL", x.look(0, 3), 0);
    Check.due("nothing is counted", x.found(1) + x.found(2), 0);
    Check.due("the status stays", x.status(), -2);
    Check.due("the state stays", x.back(0), before);
    Check.due("the BRAKE is on", x.look(0, 4), 1);
    x.may(5, 0);
    Check.due("a refused one leaves no marks", x.count(7), 0);
  }
}
