/** Promises 16 to 23: go, take, lift, set, drop, load, fetch, serve. */
public final class ActsTest {
  private static final int[] WILD = {Integer.MIN_VALUE, -10, -1, 12, Integer.MAX_VALUE};

  public static void main(String[] args) {
    going();
    goingOnRails();
    taking();
    takingIsWeighing();
    lifting();
    setting();
    rulesOneAndThree();
    ruleTwo();
    ruleFour();
    ruleFive();
    forms();
    dropping();
    loading();
    loadingRules();
    fetching();
    digs();
    serving();
    brakesAndFails();
    Check.end();
  }

  private static void act(BoxYard x, String call, int got, int want, long... marks) {
    Check.due(call, got, want);
    Check.due("status behind " + call, x.status(), Math.min(want, 0));
    Check.dues("marks of " + call, Check.marks(x), marks);
  }

  /** Promise 16. */
  private static void going() {
    BoxYard x = new BoxYard();
    for (int kind = 0; kind <= 4; kind++) x.crane(kind, kind <= 2 ? kind : -9, 0);
    int[] stops = {25, 20, 25, 20, 22};
    long[][] marks = {{51}, {52, 51}, {51}, {50, 57}, {55, 50, 57}};
    int number = 0;
    for (int c = 0; c <= 4; c++) {
      x.wind(stops[c] + 1);
      act(x, "go in too much wind", x.go(c, 9), -46, marks[c]);
      Check.due("it stays", x.look(c, 0), 0);
      x.wind(stops[c]);
      act(x, "go in as much wind", x.go(c, 9), ++number, marks[c]);
      Check.due("it went", x.look(c, 0), 9);
      act(x, "go to where it is", x.go(c, 9), ++number, marks[c]);
    }
    x.wind(60);
    for (int w : WILD) {
      act(x, "go(" + w + ", 99)", x.go(w, 99), -1);
      act(x, "go(0, " + w + ")", x.go(0, w), -2);
    }
    act(x, "go(5, 0)", x.go(5, 0), -1);
    act(x, "go(0, 10)", x.go(0, 10), -2);
    Check.due("FAILS are of RULES alone", x.look(0, 3), 1);
    x.wind(0);
    x.go(3, 0);
    x.box(0, 1, 1, 0, 0);
    x.take(3, 0);
    x.go(3, 4);
    Check.due("its BOX goes with it", x.where(0, 0) * 100 + x.where(0, 1), 203);
  }

  private static void goingOnRails() {
    BoxYard x = new BoxYard();
    x.rail(1, 2);
    x.crane(0, 1, 2);
    x.crane(0, 0, 3);
    x.crane(2, 1, 5);
    x.crane(1, 1, 9);
    int[] due = {-47, -47, -47, -47, 1, 2, 3, 4, -47, -47};
    for (int p = 0; p <= 9; p++) Check.due("the middle one to " + p, x.go(2, p), due[p]);
    Check.due("the first one to 5", x.go(0, 5), 5);
    Check.due("the first one to 6", x.go(0, 6), -47);
    Check.due("the first one to 0", x.go(0, 0), 6);
    Check.due("the last one to 8", x.go(3, 8), -47);
    Check.due("another RAIL", x.go(1, 7), 7);
    x.wind(60);
    Check.due("RULE 6 is first", x.go(0, 9), -46);
    Check.due("FAILS of the middle one", x.look(2, 3), 6);
    for (int rail = 0; rail <= 2; rail++) {
      BoxYard y = new BoxYard();
      y.crane(2, rail, 3);
      y.crane(1, rail, 4);
      Check.due("onto the one behind", y.go(0, 4), -47);
      Check.due("onto the one before", y.go(1, 3), -47);
      Check.due("over the one behind", y.go(0, 9), -47);
      Check.due("another one there", y.crane(0, rail, 4), -47);
      Check.due("away", y.go(1, 9), 1);
      Check.due("after it", y.go(0, 8), 2);
    }
  }

  /** Promise 17. */
  private static void taking() {
    BoxYard x = new BoxYard();
    x.crane(3, -9, 0);
    x.crane(4, -9, 3);
    x.box(0, 200, 1, 0, 0);
    x.box(0, 201, 1, 0, 0);
    x.box(0, 1, 400, 0, 0);
    for (int w : WILD) {
      act(x, "take(" + w + ", 0)", x.take(w, 0), -1);
      act(x, "take(0, " + w + ")", x.take(0, w), -1);
    }
    act(x, "take(0, 3)", x.take(0, 3), -1);
    act(x, "take(2, 0)", x.take(2, 0), -1);
    act(x, "KNOWN is above its LOAD", x.take(0, 1), -49, 50, 57, 44);
    Check.due("it was not weighed", x.where(1, 5) + x.where(1, 0), 0);
    act(x, "its PLACE is not 0", x.take(1, 1), -50, 55, 50, 57);
    x.wind(23);
    act(x, "RULE 6 is first", x.take(1, 1), -46, 55, 50, 57);
    x.wind(20);
    act(x, "as told", x.take(0, 2), 1, 50, 57, 44);
    Check.due("what it takes hold of", x.look(0, 1), 2);
    Check.due("LIFTS", x.look(0, 2), 1);
    x.wind(60);
    act(x, "it has a BOX", x.take(0, 0), -3);
    act(x, "that one is not there", x.take(1, 2), -3);
    x.wind(0);
    x.drop(0);
    act(x, "it is GONE", x.take(0, 2), -3);
    act(x, "as much as its LOAD", x.take(0, 0), 3, 50, 57, 44);
    Check.due("FAILS", x.look(0, 3) * 10 + x.look(1, 3), 12);
  }

  private static void takingIsWeighing() {
    BoxYard x = new BoxYard();
    x.crane(3, -9, 0);
    x.box(0, 10, 30, 0, 0);
    x.box(0, 10, 10, 0, 0);
    x.bay(0, 0, 5);
    x.take(0, 0);
    Check.due("KNOWN", x.where(0, 4), 30);
    Check.due("WEIGHED", x.where(0, 5), 1);
    Check.due("WRONG", x.where(0, 6), 1);
    Check.due("count(5)", x.count(5), 1);
    x.set(0, 0);
    x.lift(0, 0);
    Check.due("WRONG from then on", x.where(0, 6), 1);
    x.set(0, 0);
    x.take(0, 1);
    Check.due("WEIGHED, not WRONG", x.where(1, 5) * 10 + x.where(1, 6), 10);
    Check.due("count(5)", x.count(5), 1);
    Check.due("LIFTS", x.look(0, 2), 3);
  }

  /** Promise 18. */
  private static void lifting() {
    BoxYard x = new BoxYard();
    x.bay(0, 0, 555);
    for (int kind = 0; kind <= 4; kind++) x.crane(kind, kind <= 2 ? kind : -9, 0);
    for (int i = 0; i < 12; i++) x.box(0, 10, 10, 0, 0);
    for (int w : WILD) act(x, "lift(" + w + ", 0)", x.lift(w, 0), -1);
    for (int w : WILD) act(x, "lift(0, " + w + ")", x.lift(0, w), -62, 51);
    act(x, "BEYOND", x.lift(0, 3), -62, 51);
    act(x, "NOTHING", x.lift(0, 2), -63, 51);
    for (int i = 0; i < 11; i++) {
      x.take(0, i);
      x.set(0, i < 5 ? 0 : i < 10 ? 1 : 2);
    }
    Check.due("NUMBER", x.count(4), 22);
    act(x, "STRADDLE at place 4", x.lift(3, 0), -48, 50, 57, 64);
    act(x, "RAILED at place 4", x.lift(2, 0), -48, 51, 63);
    act(x, "REACH at place 4 of STACK 1", x.lift(4, 1), -48, 55, 50, 57, 65, 64);
    act(x, "REACH at place 4 of STACK 0", x.lift(4, 0), 23, 55, 50, 57, 65, 45, 44);
    Check.due("its BOX", x.look(4, 1), 4);
    act(x, "it has a BOX", x.lift(4, 9), -3);
    act(x, "RAILED at place 3", x.lift(2, 0), 24, 51, 63, 61, 43, 41);
    act(x, "STRADDLE at place 2", x.lift(3, 0), 25, 50, 57, 64, 44);
    act(x, "QUAY at STACK 2", x.lift(1, 2), -48, 52, 51, 62);
    act(x, "QUAY at STACK 1", x.lift(1, 1), 26, 52, 51, 62, 61, 42, 41);
    act(x, "GANTRY", x.lift(0, 1), 27, 51, 61, 41);
    Check.due("LIFTS", x.look(1, 2), 1);
    Check.due("what is there", x.stack(0, 1, 3), -9);
    Check.due("what is there", x.stack(0, 1, 2), 7);
    Check.due("FAILS", x.look(0, 3), 7);
    heavyLifts();
  }

  private static void heavyLifts() {
    BoxYard x = new BoxYard();
    x.bay(0, 0, 1);
    x.crane(1, 0, 0);
    x.crane(3, -9, 0);
    x.box(0, 10, 201, 0, 0);
    x.take(0, 0);
    x.set(0, 0);
    act(x, "KNOWN is above its LOAD", x.lift(1, 0), -49, 50, 57, 64, 44);
    x.wind(21);
    act(x, "RULE 6", x.lift(1, 0), -46, 50, 57);
    x.wind(0);
    x.go(1, 7);
    act(x, "NO BAY", x.lift(1, 0), -61, 50, 57);
    Check.due("found NO BAY", x.found(1), 1);
    act(x, "QUAY", x.lift(0, 0), 4, 52, 51, 62, 61, 42, 41);
    x.drop(0);
    x.box(0, 10, 200, 0, 0);
    x.take(0, 1);
    x.set(0, 0);
    x.go(1, 0);
    act(x, "as much as its LOAD", x.lift(1, 0), 9, 50, 57, 64, 44);
  }

  /** Promise 19: what has a place, and what has none. */
  private static void setting() {
    BoxYard x = new BoxYard();
    x.bay(0, 0, 514);
    for (int kind = 0; kind <= 4; kind++) x.crane(kind, kind <= 2 ? kind : -9, 0);
    for (int i = 0; i < 14; i++) x.box(0, 10, 10, 0, 0);
    for (int w : WILD) act(x, "set(" + w + ", 0)", x.set(w, 0), -1);
    act(x, "it has none", x.set(0, 9), -3);
    x.take(0, 0);
    for (int w : WILD) act(x, "set(0, " + w + ")", x.set(0, w), -62, 51);
    act(x, "BEYOND", x.set(0, 3), -62, 51);
    act(x, "set", x.set(0, 1), 2, 51, 61, 10, 17);
    Check.due("it has none any more", x.look(0, 1), -9);
    Check.due("there it is", x.stack(0, 1, 0), 0);
    for (int c = 0; c <= 4; c++) x.take(c, c + 1);
    act(x, "it is full", x.set(0, 1), -62, 51);
    act(x, "QUAY at STACK 2", x.set(1, 2), -48, 52, 51, 62);
    act(x, "QUAY at STACK 0", x.set(1, 0), 8, 52, 51, 62, 61, 10, 17);
    act(x, "STRADDLE at place 1", x.set(3, 0), 9, 50, 57, 64, 1, 10, 17, 10, 17);
    act(x, "REACH at place 2 of STACK 0", x.set(4, 0), 10, 55, 50, 57, 65, 1, 1, 10, 17, 10, 17, 10, 17);
    act(x, "RAILED at place 3", x.set(2, 0), 11, 51, 63, 61, 1, 1, 1, 10, 17, 10, 17, 10, 17, 10, 17);
    act(x, "it is full", x.set(0, 0), -62, 51);
    x.set(0, 2);
    for (int b = 6; b <= 7; b++) {
      x.take(0, b);
      x.set(0, 2);
    }
    x.take(2, 8);
    x.take(3, 9);
    x.take(4, 10);
    act(x, "STRADDLE at place 3", x.set(3, 2), -48, 50, 57, 64);
    act(x, "REACH at place 3 of STACK 2", x.set(4, 2), -48, 55, 50, 57, 65, 64);
    x.set(2, 2);
    x.take(2, 11);
    act(x, "RAILED at place 4", x.set(2, 2), -48, 51, 63);
    x.wind(26);
    act(x, "RULE 6", x.set(2, 9), -46, 51);
    x.wind(0);
    x.go(2, 4);
    act(x, "NO BAY", x.set(2, 9), -61, 51);
    Check.due("found BEYOND", x.found(2), 8);
  }

  private static void rulesOneAndThree() {
    BoxYard x = new BoxYard();
    x.bay(0, 0, 222222);
    x.crane(0, 0, 0);
    for (int kind = 0; kind <= 5; kind++) {
      x.plugs(0, kind, 1);
      x.take(0, x.box(kind, 1, 1, 0, 0));
      Check.that("set " + kind, x.set(0, kind) > 0);
    }
    // By the TOP: what comes onto it, PLAIN .. EMPTY. A COLD one finds no PLUG at place 1.
    int[] onLoad = {0, -43, 0, 0, 0, 0};
    int[] onEmpty = {-41, -41, -41, -41, -41, 0};
    for (int kind = 0; kind <= 5; kind++) {
      x.take(0, x.box(kind, 1, 1, 0, 0));
      for (int top = 0; top <= 5; top++) {
        int want = top == 3 || top == 4 ? -41 : top == 5 ? onEmpty[kind] : onLoad[kind];
        Check.due("a " + kind + " onto a " + top, x.may(0, top), want);
      }
      if (kind == 1) {
        Check.due("two PLUGS", x.plugs(0, 2, 2) + x.may(0, 2), 1);
        x.may(0, 5);
        Check.dues("RULE 1 asks no body", Check.marks(x), 51, 61);
        x.may(0, 0);
        Check.dues("RULE 3 is behind RULE 2", Check.marks(x), 51, 61, 1);
      }
      x.drop(0);
    }
  }

  /** RULE 2: BEARS of each against what stands above it; the first that bears not enough is the last asked. */
  private static void ruleTwo() {
    BoxYard x = new BoxYard();
    x.bay(0, 0, 455);
    x.crane(1, 0, 0);
    x.box(2, 10, 10, 0, 0);
    x.box(0, 125, 125, 0, 0);
    x.box(0, 100, 100, 0, 0);
    x.box(0, 101, 101, 0, 0);
    x.take(0, 0);
    x.set(0, 0);
    x.take(0, 1);
    act(x, "125 onto TANK", x.set(0, 0), 4, 52, 51, 62, 61, 3, 1, 10, 17, 10, 17);
    x.take(0, 3);
    act(x, "226 onto TANK", x.set(0, 0), -42, 52, 51, 62, 61, 3, 1);
    x.drop(0);
    x.take(0, 2);
    act(x, "225 onto TANK", x.set(0, 0), 8, 52, 51, 62, 61, 3, 1, 1, 10, 17, 10, 17, 10, 17);
    x.box(0, 250, 250, 0, 0);
    x.box(2, 10, 10, 0, 0);
    x.box(0, 10, 226, 0, 0);
    x.take(0, 4);
    x.set(0, 1);
    x.take(0, 5);
    x.set(0, 1);
    x.take(0, 6);
    act(x, "226, as weighed, onto the TANK at place 1", x.set(0, 1), -42, 52, 51, 62, 61, 1, 3, 1);
    nineHundred();
  }

  private static void nineHundred() {
    BoxYard x = new BoxYard();
    x.bay(0, 0, 555);
    x.crane(1, 0, 0);
    int[] weights = {1, 400, 400, 101, 100};
    for (int i = 0; i < 5; i++) x.box(0, weights[i], weights[i], 0, 0);
    for (int i = 0; i < 3; i++) {
      x.take(0, i);
      x.set(0, 0);
    }
    x.take(0, 3);
    Check.due("901 onto PLAIN", x.may(0, 0), -42);
    x.drop(0);
    x.take(0, 4);
    Check.due("900 onto PLAIN", x.may(0, 0), 0);
    x.drop(0);
    x.plugs(0, 1, 1);
    int[] cold = {1, 300, 300, 1};
    for (int i = 0; i < 4; i++) x.box(i == 0 ? 1 : 0, cold[i], cold[i], 0, 0);
    for (int i = 5; i < 8; i++) {
      x.take(0, i);
      Check.that("set " + i, x.set(0, 1) > 0);
    }
    x.take(0, 8);
    Check.due("601 onto COLD", x.may(0, 1), -42);
    x.drop(0);
    x.wind(0);
    x.crane(0, 1, 0);
    int[] empties = {1, 150, 150, 1};
    for (int i = 0; i < 4; i++) x.box(5, empties[i], empties[i], 0, 0);
    for (int i = 9; i < 12; i++) {
      x.take(1, i);
      Check.that("set " + i, x.set(1, 2) > 0);
    }
    x.take(1, 12);
    Check.due("301 onto EMPTY", x.may(1, 2), -42);
  }

  private static void ruleFour() {
    BoxYard x = new BoxYard();
    x.bay(0, 0, 222222);
    x.bay(1, 0, 2);
    x.crane(0, 0, 0);
    for (int danger = 0; danger <= 4; danger++) x.box(0, 1, 1, danger, 0);
    x.take(0, 2);
    x.set(0, 2);
    x.take(0, 1);
    Check.due("APART is 0 at first", x.may(0, 2), 0);
    for (int apart = 0; apart <= 6; apart++) {
      x.apart(2, 1, apart);
      for (int s = 0; s <= 5; s++) {
        Check.due("APART " + apart + " at STACK " + s, x.may(0, s), Math.abs(s - 2) < apart ? -44 : 0);
      }
    }
    x.may(0, 2);
    Check.dues("RULE 4 is behind RULE 2, ahead of RULE 5", Check.marks(x), 51, 61, 1);
    x.go(0, 1);
    Check.due("another BAY has no say", x.may(0, 0), 0);
    x.go(0, 0);
    x.drop(0);
    x.take(0, 0);
    Check.due("DANGER 0", x.may(0, 2), 0);
    x.set(0, 0);
    x.take(0, 3);
    Check.due("DANGERS that were not told", x.may(0, 2), 0);
    x.apart(3, 3, 6);
    Check.due("it is not apart of itself", x.may(0, 0), 0);
    x.apart(2, 3, 1);
    Check.due("the same STACK", x.may(0, 2), -44);
    Check.due("the next STACK", x.may(0, 3), 0);
    x.set(0, 3);
    x.take(0, x.box(0, 1, 1, 3, 0));
    Check.due("of its own DANGER", x.may(0, 0), -44);
    everyPairOfDangers();
  }

  private static void everyPairOfDangers() {
    for (int told = 1; told <= 4; told++) {
      for (int other = 1; other <= 4; other++) {
        BoxYard x = new BoxYard();
        x.bay(0, 0, 22);
        x.crane(0, 0, 0);
        for (int danger = 0; danger <= 4; danger++) x.box(0, 1, 1, danger, 0);
        for (int danger = 0; danger <= 4; danger++) x.box(0, 1, 1, danger, 0);
        x.apart(told, other, 1);
        for (int there = 0; there <= 4; there++) {
          x.take(0, there);
          x.set(0, 0);
          for (int comes = 0; comes <= 4; comes++) {
            x.take(0, 5 + comes);
            boolean near = (there == told && comes == other) || (there == other && comes == told);
            Check.due("a " + comes + " to a " + there, x.may(0, 0), near ? -44 : 0);
            Check.due("beside it", x.may(0, 1), 0);
            x.undo();
          }
          x.lift(0, 0);
          x.drop(0);
        }
      }
    }
  }

  /** RULE 5 can't be broken (what is HIGH bears none), but its TALL is asked from place 0 on, then of the new one. */
  private static void ruleFive() {
    BoxYard x = new BoxYard();
    x.bay(0, 0, 31);
    x.crane(0, 0, 0);
    x.box(4, 1, 1, 0, 0);
    x.take(0, 0);
    act(x, "3 at HEIGHT 1", x.set(0, 0), 2, 51, 61, 15, 10, 17);
    x.lift(0, 0);
    x.drop(0);
    x.box(2, 1, 1, 0, 0);
    x.box(5, 1, 1, 0, 0);
    x.box(5, 1, 1, 0, 0);
    x.take(0, 1);
    x.set(0, 1);
    x.take(0, 2);
    x.set(0, 1);
    x.take(0, 3);
    act(x, "TANK, EMPTY, EMPTY", x.set(0, 1), 10, 51, 61, 3, 1, 6, 1, 10, 17, 16, 16);
  }

  private static void forms() {
    BoxYard x = new BoxYard();
    for (int form = 0; form <= 3; form++) {
      x.bay(form, form, 11);
      x.plugs(form, 1, 1);
    }
    x.crane(0, 0, 0);
    boolean[][] takes = {
      {true, true, true, true, true, true},
      {false, true, false, false, false, false},
      {false, false, false, false, false, true},
      {true, true, true, false, false, true}};
    int forms = 0;
    for (int kind = 0; kind <= 5; kind++) {
      x.take(0, x.box(kind, 1, 1, 0, 0));
      for (int form = 0; form <= 3; form++) {
        x.go(0, form);
        Check.due("form " + form + " of kind " + kind, x.may(0, 1), takes[form][kind] ? 0 : -64);
        Check.due("COLD without a PLUG: RULE 3 is first", x.may(0, 0), kind == 1 ? -43 : takes[form][kind] ? 0 : -64);
        if (!takes[form][kind]) {
          Check.due("FORM", x.set(0, 1), -64);
          Check.due("found FORM", x.found(4), ++forms);
          Check.due("TALL was asked", x.trace(2), kind == 4 ? 15 : kind == 5 ? 16 : 10);
        }
      }
      x.go(0, 0);
      x.drop(0);
    }
  }

  /** Promise 20. */
  private static void dropping() {
    BoxYard x = new BoxYard();
    x.crane(3, -9, 0);
    x.box(0, 1, 1, 0, 0);
    for (int w : WILD) act(x, "drop(" + w + ")", x.drop(w), -1);
    act(x, "drop(1)", x.drop(1), -1);
    act(x, "it has none", x.drop(0), -3);
    x.take(0, 0);
    x.go(0, 1);
    act(x, "RULE 10", x.drop(0), -50, 50, 57);
    x.wind(21);
    act(x, "RULE 6 is first", x.drop(0), -46, 50, 57);
    x.wind(0);
    x.go(0, 0);
    act(x, "drop", x.drop(0), 4, 50, 57);
    Check.due("it is GONE", x.where(0, 0), 4);
    Check.due("its numbers", x.where(0, 1) + x.where(0, 2) + x.where(0, 3), 0);
    Check.due("the CRANE has none", x.look(0, 1), -9);
    Check.due("FAILS", x.look(0, 3), 2);
  }

  /** Promise 21: the order of what is met. */
  private static void loading() {
    BoxYard x = new BoxYard();
    x.crane(1, 0, 0);
    x.crane(0, 1, 0);
    x.ship(2, 2, 2, 3);
    x.box(0, 10, 10, 0, 0);
    x.box(0, 10, 10, 0, 0);
    for (int w : WILD) act(x, "load(" + w + ")", x.load(w), -1);
    act(x, "it has none", x.load(0), -3);
    x.take(0, 0);
    x.take(1, 1);
    x.wind(26);
    act(x, "RULE 6", x.load(1), -46, 51);
    x.wind(0);
    act(x, "CAST is ahead of NOTHING", x.load(1), -65, 51);
    act(x, "NOTHING", x.load(0), -63, 52, 51);
    x.plan(0, 0, 9, 9, 9);
    act(x, "RULE 11 is ahead of BEYOND", x.load(0), -51, 52, 51);
    x.go(0, 3);
    int[][] beyond = {{2, 0, 0}, {0, 2, 0}, {0, 0, 2}, {-1, 0, 0}, {0, -1, 0}, {0, 0, -1}, {-9, 9, 0}};
    for (int[] b : beyond) {
      x.plan(0, 0, b[0], b[1], b[2]);
      act(x, "BEYOND", x.load(0), -62, 52, 51);
    }
    x.plan(0, 0, 1, 0, 1);
    act(x, "RULE 12: what is below is not taken", x.load(0), -52, 52, 51);
    x.plan(0, 0, 1, 0, 0);
    act(x, "load", x.load(0), 4, 52, 51);
    Check.due("where it is", x.where(0, 0) * 100 + x.where(0, 1) * 10 + x.where(0, 2), 301);
    Check.due("its LINK stays", x.where(0, 7), 0);
    Check.due("the CRANE has none", x.look(0, 1), -9);
    x.go(1, 0);
    x.set(1, 0);
    x.drop(1);
    x.go(0, 0);
    x.box(0, 10, 10, 0, 0);
    x.take(0, 2);
    x.go(0, 3);
    x.plan(2, 0, 1, 0, 0);
    act(x, "RULE 12: it is taken", x.load(0), -52, 52, 51);
    x.plan(2, 0, 1, 0, 1);
    Check.that("onto it", x.load(0) > 0);
    Check.due("FAILS of the QUAY", x.look(0, 3), 11);
    Check.due("found", x.found(2) * 100 + x.found(3) * 10 + x.found(5), 711);
  }

  private static void loadingRules() {
    for (int what = 0; what <= 2; what++) {
      for (int side = 0; side <= 1; side++) {
        BoxYard x = new BoxYard();
        x.crane(1, 0, 0);
        x.ship(4, 2, 2, 0);
        for (int i = 0; i < 2; i++) x.box(0, 1, 40, 0, 0);
        x.take(0, 0);
        x.plan(0, 0, 1 + side, side, 0);
        x.load(0);
        // The first one weighs -40 or 40 of TRIM and HEEL; the second is right above it.
        x.take(0, 1);
        x.plan(1, 0, 1 + side, side, 1);
        int then = what == 2 ? 40 : 80;
        x.limit(0, what, then - 1);
        Check.due("RULE 13 of SUM " + what, x.load(0), -53);
        x.limit(0, what, then);
        Check.due("as much as the LIMIT", x.load(0), 4);
        Check.due("the SUM", x.sum(0, what), what == 2 || side == 1 ? then : -then);
      }
    }
  }

  /** Promise 22. */
  private static void fetching() {
    BoxYard x = new BoxYard();
    x.crane(1, 0, 2);
    x.crane(0, 1, 2);
    x.ship(2, 1, 2, 2);
    x.ship(1, 1, 1, 5);
    x.wind(60);
    for (int w : WILD) {
      act(x, "fetch(" + w + ", 0, 0, 0)", x.fetch(w, 0, 0, 0), -1);
      act(x, "fetch(0, " + w + ", 0, 0)", x.fetch(0, w, 0, 0), -1);
    }
    act(x, "fetch(0, 2, 0, 0)", x.fetch(0, 2, 0, 0), -1);
    act(x, "RULE 6", x.fetch(1, 0, 0, 0), -46, 51);
    x.wind(0);
    act(x, "CAST is ahead of RULE 11", x.fetch(1, 1, 9, 9), -65, 51);
    act(x, "RULE 11 is ahead of BEYOND", x.fetch(0, 1, 9, 9), -51, 52, 51);
    for (int w : WILD) {
      act(x, "x " + w, x.fetch(0, 0, w, 0), -62, 52, 51);
      act(x, "y " + w, x.fetch(0, 0, 0, w), -62, 52, 51);
    }
    act(x, "x 2", x.fetch(0, 0, 2, 0), -62, 52, 51);
    act(x, "y 1", x.fetch(0, 0, 0, 1), -62, 52, 51);
    act(x, "NOTHING", x.fetch(0, 0, 1, 0), -63, 52, 51);
    Check.due("FAILS", x.look(0, 3), 14);
    for (int z = 0; z <= 1; z++) {
      x.box(0, 1, 390 + 5 * z, 0, 0);
      x.plan(z, 0, 1, 0, z);
      x.go(0, 0);
      x.take(0, z);
      x.go(0, 2);
      Check.that("loaded", x.load(0) > 0);
    }
    Check.due("LIFTS", x.look(0, 2), 2);
    act(x, "the greatest z", x.fetch(0, 0, 1, 0), 9, 52, 51);
    Check.due("its BOX", x.look(0, 1), 1);
    Check.due("LIFTS", x.look(0, 2), 3);
    Check.due("BOXES in it", x.sum(0, 6), 1);
    Check.due("its LINK stays", x.where(1, 7), 0);
    act(x, "it has a BOX", x.fetch(0, 0, 9, 9), -3);
    x.go(0, 0);
    x.drop(0);
    x.go(0, 2);
    act(x, "the last one", x.fetch(0, 0, 1, 0), 13, 52, 51);
    Check.due("BOXES in it", x.sum(0, 6), 0);
  }

  private static void digs() {
    BoxYard x = new BoxYard();
    x.crane(1, 0, 0);
    x.ship(6, 1, 1, 0);
    int[] ports = {3, 1, 6, 5, 3, 6};
    for (int i = 0; i < 6; i++) {
      x.box(0, 1, 1, 0, ports[i]);
      x.plan(i, 0, i, 0, 0);
      x.take(0, i);
      Check.that("loaded", x.load(0) > 0);
    }
    for (int port : new int[] {3, 1, 6}) x.route(0, port);
    x.serve(0);
    // SERVED is 1: 3 is left behind, 6 is behind it, 5 is not on the ROUTE.
    int[] due = {0, 0, 1, 1, 1, 2};
    for (int i = 0; i < 6; i++) {
      x.fetch(0, 0, i, 0);
      Check.due("DIGS behind PORT " + ports[i], x.sum(0, 4), due[i]);
      x.drop(0);
    }
    x.undo();
    Check.due("the drop had no say", x.sum(0, 4), 2);
    x.undo();
    Check.due("DIGS as before", x.sum(0, 4), 1);
    x.route(0, 5);
    Check.due("a PORT that comes later has no say", x.sum(0, 4), 1);
  }

  /** Promise 23. */
  private static void serving() {
    BoxYard x = new BoxYard();
    for (int w : WILD) act(x, "serve(" + w + ")", x.serve(w), -1);
    x.ship(1, 1, 1, 0);
    act(x, "no ROUTE", x.serve(0), -3);
    x.route(0, 4);
    act(x, "none behind", x.serve(0), -3);
    x.route(0, 0);
    x.route(0, 7);
    x.crane(0, 0, 0);
    x.wind(60);
    x.engine(0, 0);
    act(x, "serve", x.serve(0), 1);
    Check.due("SERVED", x.sum(0, 5), 0);
    act(x, "serve", x.serve(0), 2);
    Check.due("SERVED", x.sum(0, 5), 7);
    act(x, "none behind", x.serve(0), -3);
    x.route(0, 1);
    act(x, "one more", x.serve(0), 3);
    Check.due("undo", x.undo(), 3);
    Check.due("SERVED", x.sum(0, 5), 7);
    act(x, "no such SHIP", x.serve(1), -1);
  }

  private static void brakesAndFails() {
    BoxYard x = new BoxYard();
    x.crane(3, -9, 0);
    x.box(0, 1, 1, 0, 0);
    x.go(0, 99);
    x.take(0, 99);
    x.drop(0);
    x.set(0, 0);
    x.may(0, 0);
    Check.due("no FAIL yet", x.look(0, 3), 0);
    x.wind(21);
    x.go(0, 1);
    x.lift(0, 0);
    x.take(0, 0);
    Check.due("three FAILS", x.look(0, 3), 3);
    x.wind(0);
    x.take(0, 0);
    x.set(0, 0);
    x.load(0);
    x.go(0, 1);
    x.drop(0);
    Check.due("six FAILS", x.look(0, 3), 6);
    Check.due("the BRAKE is on", x.look(0, 4), 1);
    x.undo();
    x.undo();
    Check.due("undo() leaves FAILS", x.look(0, 3), 6);
  }
}
