/**
 * Each sentence of the document that names a boundary, under its section or promise: what is just within it, what is just
 * outside, what is empty or full, what is refused first. A test is named by the words of the document that it holds to.
 */
public final class EdgesTest {
  private static final int MIN = Integer.MIN_VALUE, MAX = Integer.MAX_VALUE;

  public static void main(String[] args) {
    theFirstThatFits();
    boxes();
    bays();
    rulesOfStacks();
    cranes();
    reaches();
    ships();
    rulesOfShips();
    linksOfAll();
    actsAndFails();
    weighing();
    theJournal();
    orderAndSearches();
    liftsHaveNoOtherRule();
    rowsAndHolds();
    tasksAndOps();
    links();
    shelves();
    tries();
    lasts();
    statusTraceFindings();
    undoAndBack();
    clearing();
    Check.end();
  }

  private static void edge(String words, long got, long want) {
    Check.due("\"" + words + "\"", got, want);
  }

  private static long[] of(long... got) {
    return got;
  }

  private static void edges(String words, long[] got, long... want) {
    Check.dues("\"" + words + "\"", got, want);
  }

  /** A yard in which all is FULL: 80 BOXES, 12 CRANES, 3 SHIPS, 6 TASKS, OPS, THE ORDER, the searches. */
  private static BoxYard full() {
    BoxYard x = new BoxYard();
    x.bay(0, 0, 4321);
    x.bay(1, 0, 11111);
    x.crane(1, 0, 0);
    x.crane(0, 0, 1);
    for (int i = 2; i < 12; i++) x.crane(3, -9, 0);
    for (int i = 0; i < 3; i++) x.ship(2, 1, 1, 0);
    for (int i = 0; i < 80; i++) x.box(0, 10, 10, 0, 0);
    for (int i = 0; i < 6; i++) x.task();
    for (int i = 0; i < 10; i++) x.op(0, 6, i, 0);
    for (int port = 0; port < 8; port++) x.route(0, port);
    x.plan(79, 0, 0, 0, 0);
    x.take(0, 79);
    x.load(0);
    x.take(2, 0);
    for (int i = 0; i < 40; i++) x.least(0);
    for (int i = 0; i < 5; i++) x.want(i);
    x.wind(60);
    return x;
  }

  /** 0 ANSWERS. */
  private static void theFirstThatFits() {
    String words = "the first of these that fits";
    BoxYard x = full();
    edges(words + ": box, OUTSIDE, FULL", of(x.box(6, 1, 1, 0, 0), x.box(0, 1, 1, 0, 0)), -2, -4);
    edges(words + ": body, where", of(x.body(80, 4), x.body(79, 4), x.where(80, 10), x.where(79, 10)), -1, -2, -1, -2);
    edges(words + ": bay", of(x.bay(10, 4, 0), x.bay(0, 4, 1), x.bay(0, 0, 6), x.bay(0, 0, 1)), -1, -2, -2, -3);
    edges(words + ": plugs", of(x.plugs(2, 0, 9), x.plugs(0, 4, 9), x.plugs(0, 3, 5)), -1, -1, -2);
    edges(words + ": rail", of(x.rail(3, 5), x.rail(0, 5), x.rail(0, 2)), -1, -2, -47);
    edges(words + ": crane", of(x.crane(5, 3, 10), x.crane(0, 3, 10), x.crane(3, 0, 10), x.crane(0, 0, 10), x.crane(0, 0, 0)), -2, -1, -1, -2, -4);
    edges(words + ": engine, look", of(x.engine(12, 3), x.engine(11, 3), x.look(12, 6), x.look(11, 6)), -1, -2, -1, -2);
    edges(words + ": may", of(x.may(12, 9), x.may(0, 9), x.may(2, 9)), -1, -3, -46);
    edges(words + ": go", of(x.go(12, 10), x.go(0, 10), x.go(0, 1)), -1, -2, -46);
    edges(words + ": take", of(x.take(12, 80), x.take(2, 80), x.take(12, 0), x.take(2, 1), x.take(3, 0), x.take(3, 1)), -1, -1, -1, -3, -3, -46);
    edges(words + ": lift", of(x.lift(12, 9), x.lift(2, 9), x.lift(3, 9)), -1, -3, -46);
    edges(words + ": set", of(x.set(12, 9), x.set(3, 9), x.set(2, 9)), -1, -3, -46);
    edges(words + ": drop", of(x.drop(12), x.drop(3), x.drop(2)), -1, -3, -46);
    edges(words + ": load", of(x.load(12), x.load(3), x.load(2)), -1, -3, -46);
    edges(words + ": fetch", of(x.fetch(12, 3, 9, 9), x.fetch(2, 3, 9, 9), x.fetch(2, 0, 9, 9), x.fetch(3, 0, 9, 9)), -1, -1, -3, -46);
    edges(words + ": serve", of(x.serve(3), x.serve(1)), -1, -3);
    edges(words + ": ship", of(x.ship(7, 1, 1, 0), x.ship(1, 1, 1, 0)), -2, -4);
    edges(words + ": limit", of(x.limit(3, 3, -1), x.limit(0, 3, 0), x.limit(0, 0, -1)), -1, -2, -2);
    edges(words + ": route", of(x.route(3, 8), x.route(0, 8), x.route(0, 7)), -1, -2, -3);
    edges(words + ": plan", of(x.plan(80, 0, 10, 0, 0), x.plan(79, 3, 10, 0, 0), x.plan(79, 0, 10, 0, 0), x.plan(79, 0, 0, 0, 0)), -1, -1, -2, -3);
    edges(words + ": sum", of(x.sum(3, 7), x.sum(2, 7)), -2000000001, -2000000002);
    edges(words + ": want", of(x.want(80), x.want(0), x.want(5)), -1, -3, -4);
    edges(words + ": least", of(x.least(2), x.least(1), x.least(0), x.forget(), x.least(0)), -1, -2, -3, 5, -4);
    edges(words + ": row, alter", of(x.row(0, 2), x.alter(0, 0, 0)), -1, -1);
    edges(words + ": task, op", of(x.task(), x.op(6, 16, 0, 0), x.op(0, 16, 0, 0), x.op(0, 15, 0, 0)), -4, -1, -2, -4);
  }

  /** 1 BOXES, promises 2 to 4. */
  private static void boxes() {
    BoxYard x = new BoxYard();
    edges("KIND 0 PLAIN .. 5 EMPTY", of(x.box(-1, 1, 1, 0, 0), x.box(0, 1, 1, 0, 0), x.box(5, 1, 1, 0, 0), x.box(6, 1, 1, 0, 0)), -2, 0, 1, -2);
    edges("weights 1 .. 400: TOLD", of(x.box(0, 0, 1, 0, 0), x.box(0, 1, 1, 0, 0), x.box(0, 400, 1, 0, 0), x.box(0, 401, 1, 0, 0)), -2, 2, 3, -2);
    edges("weights 1 .. 400: TRUE", of(x.box(0, 1, 0, 0, 0), x.box(0, 1, 1, 0, 0), x.box(0, 1, 400, 0, 0), x.box(0, 1, 401, 0, 0)), -2, 4, 5, -2);
    edges("a DANGER 0 .. 4", of(x.box(0, 1, 1, -1, 0), x.box(0, 1, 1, 0, 0), x.box(0, 1, 1, 4, 0), x.box(0, 1, 1, 5, 0)), -2, 6, 7, -2);
    edges("a PORT 0 .. 7", of(x.box(0, 1, 1, 0, -1), x.box(0, 1, 1, 0, 0), x.box(0, 1, 1, 0, 7), x.box(0, 1, 1, 0, 8)), -2, 8, 9, -2);
    edges("What = 0 BEARS .. 3 WATTS", of(x.body(0, -1), x.body(0, 0), x.body(0, 3), x.body(0, 4)), -2, 900, -65, -2);
    edges("body: UNKNOWN", of(x.body(-1, 0), x.body(0, 0), x.body(9, 0), x.body(10, 0)), -1, 900, 900, -1);
    edges("0 where it is .. 9 its PORT", of(x.where(9, -1), x.where(9, 0), x.where(9, 9), x.where(9, 10)), -2, 0, 7, -2);
    edges("where: UNKNOWN", of(x.where(-1, 9), x.where(9, 9), x.where(10, 9)), -1, 7, -1);
    edges("quotients are cut toward 0: FEE", of(fee(9), fee(10), fee(19), fee(400)), 5, 6, 6, 45);
    edges("quotients are cut toward 0: WATTS", of(watts(1), watts(99), watts(100), watts(399), watts(400)), 4, 4, 5, 7, 8);
    for (int i = 10; i < 80; i++) x.box(0, 1, 1, 0, 0);
    edges("BOXES 0 .. 79", of(x.where(79, 8), x.box(0, 1, 1, 0, 0), x.where(80, 8), x.count(0)), 0, -4, -1, 80);
  }

  private static int fee(int weight) {
    BoxYard x = new BoxYard();
    return x.body(x.box(0, weight, weight, 0, 0), 2);
  }

  private static int watts(int weight) {
    BoxYard x = new BoxYard();
    return x.body(x.box(1, weight, weight, 0, 0), 3);
  }

  /** 2 BAYS, promises 5 to 9. */
  private static void bays() {
    BoxYard x = new BoxYard();
    edges("BAYS 0 .. 9", of(x.bay(-1, 0, 1), x.bay(0, 0, 1), x.bay(9, 0, 1), x.bay(10, 0, 1)), -1, 1, 1, -1);
    edges("a FORM: 0 any BOX .. 3 PLAIN ones", of(x.bay(1, -1, 1), x.bay(1, 3, 1), x.bay(2, 4, 1)), -2, 1, -2);
    edges("1 to 6 STACKS", of(x.bay(2, 0, 0), x.bay(2, 0, 5), x.bay(3, 0, 155555), x.bay(4, 0, 1155555)), -2, 1, 6, -2);
    edges("each of a HEIGHT 1 .. 5", of(x.bay(4, 0, 10), x.bay(4, 0, 101), x.bay(4, 0, 16), x.bay(4, 0, 61), x.bay(4, 0, -1), x.bay(4, 0, 15)), -2, -2, -2, -2, -2, 2);
    edges("that of STACK 0 the lowest", of(x.stack(4, 0, 4), x.stack(4, 0, 5), x.stack(4, 1, 0), x.stack(4, 1, 1)), -9, -1, -9, -1);
    edges("STATE: it was", of(x.bay(4, 0, 5), x.stack(4, 1, 0)), -3, -9);
    edges("PLUGS become n (0 .. HEIGHT)", of(x.plugs(4, 0, -1), x.plugs(4, 0, 5), x.plugs(4, 0, 6), x.plugs(4, 0, 0)), -2, 0, -2, 5);
    edges("plugs: the BAY, or it was not laid out, the STACK", of(x.plugs(-1, 0, 0), x.plugs(10, 0, 0), x.plugs(5, 0, 0), x.plugs(4, -1, 0), x.plugs(4, 2, 0)), -1, -1, -1, -1, -1);
    edges("two DANGERS (1 .. 4)", of(x.apart(0, 1, 0), x.apart(1, 0, 0), x.apart(4, 1, 2), x.apart(1, 4, 3), x.apart(5, 1, 0), x.apart(1, 5, 0)), -2, -2, 0, 2, -2, -2);
    edges("becomes n (0 .. 6)", of(x.apart(1, 1, -1), x.apart(1, 1, 6), x.apart(1, 1, 7), x.apart(1, 1, 0)), -2, 0, -2, 6);
    edges("no such place (0 .. HEIGHT - 1)", of(x.stack(4, 0, -1), x.stack(4, 0, 0), x.stack(4, 0, 4), x.stack(4, 0, 5)), -1, -9, -9, -1);
    edges("stack: UNKNOWN as plugs()", of(x.stack(-1, 0, 0), x.stack(10, 0, 0), x.stack(5, 0, 0), x.stack(4, -1, 0), x.stack(4, 2, 0)), -1, -1, -1, -1, -1);
    edges("share: UNKNOWN, NO BAY, NOUGHT", of(x.share(-1), x.share(10), x.share(5), x.share(4), x.found(1), x.found(6)), -1, -1, -61, -66, 1, 1);
    x.crane(3, -9, 0);
    x.box(0, 1, 1, 0, 0);
    x.take(0, 0);
    x.go(0, 4);
    edges("share: one BOX that weighs 1, then none", of(x.set(0, 1), x.share(4), x.lift(0, 1), x.share(4)), 3, 1, 4, -66);
  }

  /** A STACK 0 of HEIGHT 5 with these BOXES (kind, weight), in a yard whose GANTRY has one more: what may() tells of it. */
  private static int may(int plugs, int... kindsAndWeights) {
    BoxYard x = new BoxYard();
    x.bay(0, 0, 5);
    x.crane(1, 0, 0);
    x.plugs(0, 0, 5);
    int answer = 0;
    for (int i = 0; i < kindsAndWeights.length; i += 2) {
      int box = x.box(kindsAndWeights[i], kindsAndWeights[i + 1], kindsAndWeights[i + 1], 0, 0);
      Check.that("it is taken", x.take(0, box) > 0);
      if (i + 2 == kindsAndWeights.length) x.plugs(0, 0, plugs);
      answer = x.may(0, 0);
      if (i + 2 < kindsAndWeights.length) Check.that("it is set", x.set(0, 0) > 0);
    }
    return answer;
  }

  private static void rulesOfStacks() {
    edges("its TOP is OPEN (or HIGH)", of(may(5, 3, 1, 5, 1), may(5, 4, 1, 5, 1), may(5, 0, 1, 3, 1), may(5, 0, 1, 4, 1)), -41, -41, 0, 0);
    edges("or is EMPTY and the BOX is not", of(may(5, 5, 1, 0, 1), may(5, 5, 1, 1, 1), may(5, 5, 1, 5, 1), may(5, 0, 1, 5, 1)), -41, -41, 0, 0);
    edges("weigh more than it BEARS: PLAIN 900", of(may(5, 0, 1, 0, 400, 0, 400, 0, 100), may(5, 0, 1, 0, 400, 0, 400, 0, 101)), 0, -42);
    edges("weigh more than it BEARS: COLD 600", of(may(5, 1, 1, 0, 400, 0, 200), may(5, 1, 1, 0, 400, 0, 201)), 0, -42);
    edges("weigh more than it BEARS: TANK 225", of(may(5, 2, 1, 0, 225), may(5, 2, 1, 0, 226)), 0, -42);
    edges("weigh more than it BEARS: EMPTY 300", of(may(5, 5, 1, 5, 300), may(5, 5, 1, 5, 301)), 0, -42);
    edges("of some BOX there: at place 1", of(may(5, 0, 400, 2, 400, 0, 225), may(5, 0, 400, 2, 400, 0, 226)), 0, -42);
    edges("place t has no PLUG", of(may(0, 1, 1), may(1, 1, 1), may(1, 0, 1, 1, 1), may(2, 0, 1, 1, 1), may(0, 0, 1)), -43, 0, -43, 0, 0);
    BoxYard x = new BoxYard();
    x.bay(0, 0, 222222);
    x.crane(0, 0, 0);
    for (int i = 0; i < 2; i++) x.box(0, 1, 1, 1, 0);
    x.take(0, 0);
    x.set(0, 0);
    x.take(0, 1);
    edges("less than APART away: 0 at first", of(x.may(0, 0), x.apart(1, 1, 1), x.may(0, 0), x.may(0, 1)), 0, 0, -44, 0);
    edges("less than APART away: 5", of(x.apart(1, 1, 5), x.may(0, 4), x.may(0, 5), x.apart(1, 1, 6), x.may(0, 5)), 1, -44, 0, 5, -44);
    edges("BEYOND (the STACK, or it is full)", of(x.apart(1, 1, 0), x.set(0, -1), x.set(0, 6), x.set(0, 0), x.take(0, x.box(0, 1, 1, 0, 0)), x.set(0, 0), x.set(0, 5)), 6, -62, -62, 4, 5, -62, 6);
  }

  /** 3 CRANES, promises 10 to 15. */
  private static void cranes() {
    BoxYard x = new BoxYard();
    edges("a RAIL 0 .. 2", of(x.rail(-1, 1), x.rail(0, 1), x.rail(2, 1), x.rail(3, 1)), -1, 1, 1, -1);
    edges("a GAP 1 .. 4", of(x.rail(0, 0), x.rail(0, 4), x.rail(0, 5), x.rail(0, 1)), -2, 1, -2, 4);
    edges("OUTSIDE: the KIND (ahead of all)", of(x.crane(-1, 9, 99), x.crane(5, 9, 99)), -2, -2);
    edges("UNKNOWN: the RAIL (also one for 3, 4, NONE for others)", of(x.crane(0, 3, 99), x.crane(1, -1, 99), x.crane(2, -9, 99), x.crane(3, 0, 99), x.crane(4, 2, 99), x.crane(4, 3, 99)), -1, -1, -1, -1, -1, -1);
    edges("OUTSIDE: the PLACE", of(x.crane(0, 0, -1), x.crane(0, 0, 10), x.crane(3, -9, -1), x.crane(4, -9, 10)), -2, -2, -2, -2);
    edges("a PLACE 0 .. 9", of(x.crane(0, 0, 0), x.crane(2, 0, 9), x.look(0, 0), x.look(1, 0)), 0, 1, 0, 9);
    edges("each GAP or more behind the one before", of(x.rail(1, 3), x.crane(0, 1, 3), x.crane(0, 1, 5), x.crane(0, 1, 3), x.crane(0, 1, 0), x.crane(0, 1, 6)), 1, 2, -47, -47, -47, 3);
    edges("RULE 7 of a GAP", of(x.rail(1, 4), x.rail(1, 3), x.rail(1, 2)), -47, 3, 3);
    edges("RULE 7 of go()", of(x.go(2, 5), x.go(2, 4), x.go(3, 5), x.go(3, 6), x.go(2, 9)), -47, 1, -47, 2, -47);
    for (int i = 4; i < 12; i++) x.crane(4, -9, 9);
    edges("CRANES 0 .. 11", of(x.count(1), x.crane(3, -9, 0), x.look(11, 0), x.look(12, 0), x.look(-1, 0)), 12, -4, 9, -1, -1);
    edges("WIND becomes n (0 .. 60)", of(x.wind(-1), x.wind(60), x.wind(61), x.wind(0), x.count(9)), -2, 0, -2, 60, 0);
    edges("What = 0 LOAD, 1 STOP, 2 the BERTH", of(x.engine(0, -1), x.engine(0, 0), x.engine(0, 1), x.engine(0, 2), x.engine(0, 3)), -2, 300, 25, -65, -2);
    edges("engine: UNKNOWN", of(x.engine(-1, 0), x.engine(11, 0), x.engine(12, 0)), -1, 250, -1);
    edges("Of a CRANE: 0 its PLACE .. 5 its RAIL", of(x.look(0, -1), x.look(0, 0), x.look(0, 5), x.look(0, 6)), -2, 0, 0, -2);
    for (int kind = 0; kind <= 4; kind++) stops(kind, new int[] {25, 20, 25, 20, 22}[kind]);
    for (int kind = 0; kind <= 4; kind++) loads(kind, new int[] {300, 400, 250, 200, 250}[kind]);
  }

  private static void stops(int kind, int stop) {
    BoxYard x = new BoxYard();
    x.crane(kind, kind <= 2 ? 0 : -9, 0);
    edges("RULE 6: WIND is above its STOP", of(x.wind(stop), x.go(0, 1), x.wind(stop + 1), x.go(0, 0), x.look(0, 0)), 0, 1, stop, -46, 1);
  }

  private static void loads(int kind, int load) {
    BoxYard x = new BoxYard();
    x.crane(kind, kind <= 2 ? 0 : -9, 0);
    x.box(0, Math.min(400, load + 1), 1, 0, 0);
    x.box(0, load, 1, 0, 0);
    edges("RULE 9 (KNOWN is above its LOAD)", of(x.take(0, 0), x.look(0, 1)), load == 400 ? 1 : -49, load == 400 ? 0 : -9);
    if (load < 400) edges("KNOWN is its LOAD", of(x.take(0, 1), x.look(0, 1)), 1, 1);
  }

  /** A CRANE of a kind at a STACK with so many BOXES: what may() and then, with one more there, lift() answer. */
  private static long[] reach(int kind, int stack, int boxes) {
    BoxYard x = new BoxYard();
    x.bay(0, 0, 555555);
    x.crane(0, 0, 0);
    x.crane(kind, kind <= 2 ? 1 : -9, 0);
    for (int b = 0; b <= boxes; b++) x.box(0, 1, 1, 0, 0);
    for (int b = 0; b < boxes; b++) {
      x.take(0, b);
      Check.that("it is set", x.set(0, stack) > 0);
    }
    x.take(1, boxes);
    int may = x.may(1, stack);
    x.drop(1);
    x.take(0, x.box(0, 1, 1, 0, 0));
    x.set(0, stack);
    int lifted = x.lift(1, stack);
    return of(may, Math.min(lifted, 0));
  }

  private static void reaches() {
    edges("GANTRY: always", reach(0, 5, 4), 0, 0);
    edges("QUAY: not with s above 1 (1)", reach(1, 1, 4), 0, 0);
    edges("QUAY: not with s above 1 (2)", reach(1, 2, 0), -48, -48);
    edges("RAILED: not with t above 3 (3)", reach(2, 5, 3), 0, 0);
    edges("RAILED: not with t above 3 (4)", reach(2, 0, 4), -48, -48);
    edges("STRADDLE: t up to 2 (2)", reach(3, 5, 2), 0, 0);
    edges("STRADDLE: t up to 2 (3)", reach(3, 0, 3), -48, -48);
    edges("REACH: always with s 0", reach(4, 0, 4), 0, 0);
    edges("REACH: else as STRADDLE (2)", reach(4, 1, 2), 0, 0);
    edges("REACH: else as STRADDLE (3)", reach(4, 1, 3), -48, -48);
  }

  /** 4 SHIPS, promises 24 to 31. */
  private static void ships() {
    BoxYard x = new BoxYard();
    edges("NX 1 .. 6", of(x.ship(0, 1, 1, 0), x.ship(7, 1, 1, 0)), -2, -2);
    edges("NY 1 .. 3", of(x.ship(1, 0, 1, 0), x.ship(1, 4, 1, 0)), -2, -2);
    edges("NZ 1 .. 3", of(x.ship(1, 1, 0, 0), x.ship(1, 1, 4, 0)), -2, -2);
    edges("a BERTH (a PLACE)", of(x.ship(1, 1, 1, -1), x.ship(1, 1, 1, 10)), -2, -2);
    edges("SHIPS 0 .. 2", of(x.ship(1, 1, 1, 9), x.ship(6, 3, 3, 0), x.ship(1, 3, 1, 0), x.ship(1, 1, 1, 0), x.count(2)), 0, 1, 2, -4, 3);
    edges("A LIMIT (what = 0 .. 2)", of(x.limit(0, -1, 0), x.limit(0, 0, 5), x.limit(0, 2, 5), x.limit(0, 3, 0)), -2, 1000000, 1000000, -2);
    edges("becomes n (0 .. 1000000)", of(x.limit(0, 0, -1), x.limit(0, 0, 0), x.limit(0, 0, 1000000), x.limit(0, 0, 1000001), x.limit(0, 0, 1)), -2, 5, 0, -2, 1000000);
    edges("limit: UNKNOWN", of(x.limit(-1, 0, 0), x.limit(3, 0, 0)), -1, -1);
    edges("route: OUTSIDE; STATE: it has it", of(x.route(0, -1), x.route(0, 8), x.route(0, 7), x.route(0, 7), x.route(0, 0)), -2, -2, 1, -3, 2);
    edges("route: UNKNOWN", of(x.route(-1, 0), x.route(3, 0)), -1, -1);
    edges("NONE: no ROUTE", of(x.sum(1, 5), x.sum(0, 5)), -9, 7);
    x.box(0, 5, 5, 0, 0);
    edges("x, y, z not -9 .. 9", of(x.plan(0, 0, -10, 0, 0), x.plan(0, 0, 10, 0, 0), x.plan(0, 0, 0, -10, 0), x.plan(0, 0, 0, 10, 0), x.plan(0, 0, 0, 0, -10), x.plan(0, 0, 0, 0, 10), x.where(0, 7)), -2, -2, -2, -2, -2, -2, -9);
    edges("A LINK (any numbers)", of(x.plan(0, 0, -9, 9, -9), x.where(0, 7), x.plan(0, 1, 9, -9, 9), x.where(0, 7)), 1, 0, 1, 1);
    edges("(not asked with NONE)", of(x.plan(0, -9, MIN, MAX, 10), x.where(0, 7), x.plan(0, -9, 0, 0, 0)), 1, -9, 1);
    edges("plan, UNKNOWN: the BOX, the SHIP", of(x.plan(-1, 0, 0, 0, 0), x.plan(1, 0, 0, 0, 0), x.plan(0, -1, 0, 0, 0), x.plan(0, 3, 0, 0, 0), x.plan(1, -9, 0, 0, 0)), -1, -1, -1, -1, -1);
    edges("sum: UNKNOWN as, OUTSIDE as", of(x.sum(-1, 0), x.sum(3, 0), x.sum(0, -1), x.sum(0, 7), x.sum(0, 6)), -2000000001, -2000000001, -2000000002, -2000000002, 0);
    edges("mean: UNKNOWN; NOUGHT", of(x.mean(-1), x.mean(3), x.mean(2), x.found(6)), -1, -1, -66, 1);
    edges("stable: UNKNOWN; of one that has no LINK to it", of(x.stable(-1), x.stable(3), x.stable(2)), -1, -1, 1);
    edges("broke: OUTSIDE", of(x.broke(-1), x.broke(0), x.broke(2), x.broke(3)), -2, -9, -9, -2);
    edges("serve: UNKNOWN; STATE: there is none behind", of(x.serve(-1), x.serve(3), x.serve(1), x.serve(0), x.serve(0)), -1, -1, -3, 1, -3);
  }

  private static void rulesOfShips() {
    BoxYard x = new BoxYard();
    x.crane(1, 0, 0);
    x.ship(6, 3, 3, 0);
    for (int i = 0; i < 4; i++) x.box(0, 10, 10, 0, i);
    x.take(0, 0);
    String words = "BEYOND: no such place";
    edges(words, of(x.plan(0, 0, 6, 0, 0), x.load(0), x.plan(0, 0, 0, 3, 0), x.load(0), x.plan(0, 0, 0, 0, 3), x.load(0)), 1, -62, 1, -62, 1, -62);
    edges(words, of(x.plan(0, 0, -1, 0, 0), x.load(0), x.plan(0, 0, 0, -1, 0), x.load(0), x.plan(0, 0, 0, 0, -1), x.load(0)), 1, -62, 1, -62, 1, -62);
    x.limit(0, 0, 49);
    edges("z is above 0 and the place below it is not taken, ahead of RULE 13", of(x.plan(0, 0, 5, 2, 1), x.load(0), x.plan(0, 0, 5, 2, 2), x.load(0)), 1, -52, 1, -52);
    edges("none may be above its LIMIT: TRIM", of(x.plan(0, 0, 5, 2, 0), x.load(0), x.limit(0, 0, 50), x.limit(0, 1, 19), x.load(0)), 1, -53, 49, 1000000, -53);
    edges("none may be above its LIMIT: HEEL", of(x.limit(0, 1, 20), x.load(0), x.sum(0, 0), x.sum(0, 1)), 19, 2, 50, 20);
    x.take(0, 1);
    x.limit(0, 1, 0);
    edges("the place is taken, ahead of RULE 13", of(x.plan(1, 0, 5, 2, 0), x.load(0)), 1, -52);
    x.limit(0, 0, 100);
    x.limit(0, 1, 40);
    x.limit(0, 2, 9);
    edges("none may be above its LIMIT: HEIGHT", of(x.plan(1, 0, 5, 2, 1), x.load(0), x.limit(0, 2, 10), x.load(0), x.sum(0, 2)), 1, -53, 9, 4, 10);
    x.take(0, 2);
    x.limit(0, 0, 49);
    edges("without sign", of(x.plan(2, 0, 0, 0, 0), x.load(0), x.limit(0, 0, 50), x.load(0), x.sum(0, 0)), 1, -53, 49, 6, 50);
    edges("STATE: it is in a SHIP", of(x.plan(2, 0, 0, 0, 0), x.plan(2, -9, 0, 0, 0), x.where(2, 7)), -3, -3, 0);
    edges("fetch, BEYOND: x, y", of(x.fetch(0, 0, -1, 0), x.fetch(0, 0, 6, 0), x.fetch(0, 0, 0, -1), x.fetch(0, 0, 0, 3)), -62, -62, -62, -62);
    edges("fetch, NOTHING", of(x.fetch(0, 0, 1, 0), x.fetch(0, 0, 5, 1)), -63, -63);
    edges("the greatest z", of(x.fetch(0, 0, 5, 2), x.look(0, 1), x.drop(0), x.fetch(0, 0, 5, 2), x.look(0, 1), x.drop(0), x.fetch(0, 0, 5, 2)), 7, 1, 8, 9, 0, 10, -63);
    x.route(0, 5);
    x.route(0, 2);
    x.route(0, 7);
    x.serve(0);
    edges("behind the one that is SERVED: not that one", of(x.fetch(0, 0, 0, 0), x.sum(0, 4)), 12, 0);
    edges("RULE 11 (its PLACE is not the SHIP's BERTH)", of(x.go(0, 1), x.load(0), x.go(0, 0), x.load(0)), 13, -51, 14, 15);
  }

  /** LINKS of all 80 BOXES, told anew again and again: each is told once, as the latest. */
  private static void linksOfAll() {
    BoxYard x = new BoxYard();
    x.ship(6, 3, 3, 0);
    for (int i = 0; i < 80; i++) x.box(0, 1, 1, 0, 0);
    for (int i = 0; i < 80; i++) x.plan(i, 0, i % 6, i / 6 % 3, i / 18);
    edges("in the order in which their LINKS were told: 54 places, then BEYOND", of(x.stable(0), x.broke(0), x.broke(1), x.broke(2)), 0, 54, 54, -62);
    for (int i = 0; i < 80; i++) x.plan(i, 0, i % 6, i / 6 % 3, i / 18);
    for (int i = 60; i < 80; i++) x.plan(i, -9, 0, 0, 0);
    edges("in place of one", of(x.stable(0), x.broke(0), x.broke(1)), 0, 54, 54);
    x.plan(0, 0, 0, 0, 0);
    edges("told now, as the latest", of(x.stable(0), x.broke(0), x.broke(1), x.broke(2)), 0, 18, 17, -52);
    for (int i = 1; i < 60; i++) x.plan(i, 0, i % 6, i / 6 % 3, i / 18);
    edges("told now, as the latest", of(x.stable(0), x.broke(0), x.broke(1)), 0, 54, 54);
    for (int i = 54; i < 60; i++) x.plan(i, -9, 0, 0, 0);
    edges("STABLE as told: all 54 places", of(x.stable(0), x.broke(0), x.broke(1), x.broke(2)), 1, -9, -9, -9);
    edge("RULE 12 of one more", x.plan(54, 0, 0, 0, 2) + x.stable(0) + 10 * x.broke(1) + x.broke(2), 1 + 540 - 52);
  }

  /** 5 ACTS, promises 16 to 23. */
  private static void actsAndFails() {
    BoxYard x = new BoxYard();
    x.crane(3, -9, 0);
    x.box(0, 1, 1, 0, 0);
    edges("go to a PLACE 0 .. 9", of(x.go(0, -1), x.go(0, 9), x.go(0, 10), x.go(0, 0), x.go(0, 0)), -2, 1, -2, 2, 3);
    edges("UNKNOWN: the CRANE", of(x.go(-1, 0), x.take(1, 0), x.lift(-1, 0), x.set(1, 0), x.drop(-1), x.load(1)), -1, -1, -1, -1, -1, -1);
    edges("take, UNKNOWN: the BOX", of(x.take(0, -1), x.take(0, 1)), -1, -1);
    edges("what was not done then is counted as one FAIL: not UNKNOWN, OUTSIDE, STATE", of(x.look(0, 3), x.drop(0), x.look(0, 3)), 0, -3, 0);
    edges("what was not done then is counted as one FAIL: a RULE", of(x.go(0, 1), x.take(0, 0), x.look(0, 3), x.look(0, 4)), 4, -50, 1, 1);
    edges("what was not done then is counted as one FAIL: a FINDING", of(x.lift(0, 0), x.look(0, 3), x.found(1), x.look(0, 4)), -61, 2, 1, 1);
    edges("(undo() leaves FAILS)", of(x.undo(), x.look(0, 3)), 4, 2);
    edges("what is done is none", of(x.take(0, 0), x.look(0, 3), x.look(0, 4)), 5, 2, 1);
    edges("a NUMBER (none is ever given twice)", of(x.undo(), x.count(4), x.take(0, 0), x.count(4)), 5, 5, 6, 6);
    edges("RULE 10 (its PLACE is not 0)", of(x.go(0, 1), x.drop(0), x.go(0, 0), x.drop(0), x.where(0, 0)), 7, -50, 8, 9, 4);
    edges("take, STATE: that one is not there", of(x.take(0, 0), x.look(0, 3)), -3, 3);
    x.bay(0, 0, 12);
    edges("lift: BEYOND (the STACK), NOTHING", of(x.lift(0, -1), x.lift(0, 2), x.lift(0, 0), x.lift(0, MIN), x.lift(0, MAX)), -62, -62, -63, -62, -62);
  }

  private static void weighing() {
    BoxYard x = new BoxYard();
    x.crane(3, -9, 0);
    x.box(0, 10, 400, 0, 0);
    x.box(0, 201, 10, 0, 0);
    x.box(0, 10, 10, 0, 0);
    edges("KNOWN is the TOLD weight", of(x.where(0, 4), x.where(0, 5), x.where(0, 6)), 10, 0, 0);
    edges("(as this is done): it is not, above its LOAD as TOLD", of(x.take(0, 1), x.where(1, 4), x.where(1, 5), x.where(1, 6)), -49, 201, 0, 0);
    edges("once it was WEIGHED the TRUE one, above its LOAD as TRUE", of(x.take(0, 0), x.where(0, 4), x.where(0, 5), x.where(0, 6)), 1, 400, 1, 1);
    x.bay(0, 0, 5);
    edges("KNOWN is above its LOAD then", of(x.set(0, 0), x.lift(0, 0), x.where(0, 6), x.count(5)), 2, -49, 1, 1);
    edges("TOLD is not TRUE", of(x.take(0, 2), x.where(2, 5), x.where(2, 6), x.count(5)), 3, 1, 0, 1);
  }

  private static void theJournal() {
    BoxYard x = new BoxYard();
    x.crane(3, -9, 0);
    x.bay(0, 0, 2);
    for (int i = 1; i <= 61; i++) x.go(0, i % 10);
    edges("THE JOURNAL keeps the latest 60 ACTS", of(x.count(3), x.back(61), x.undo(), x.count(3)), 60, -1, 61, 59);
    x.box(0, 1, 1, 0, 0);
    x.ship(1, 1, 1, 0);
    x.plugs(0, 0, 1);
    x.apart(1, 1, 1);
    x.wind(1);
    x.limit(0, 0, 1);
    x.route(0, 1);
    x.plan(0, 0, 0, 0, 0);
    x.want(0);
    x.forget();
    x.least(0);
    x.run(x.task());
    edges("what else is told leaves it", of(x.count(3)), 59);
    edges("what is refused leaves it", of(x.bay(0, 0, 1), x.crane(5, 0, 0), x.rail(0, 5), x.go(0, 10), x.count(3)), -3, -2, -2, -2, 59);
    edges("a GAP that is told (also what it was) empties it", of(x.rail(0, 1), x.count(3), x.undo()), 1, 0, -3);
    edges("laying out a BAY empties it", of(x.go(0, 0), x.bay(1, 0, 2), x.count(3)), 62, 1, 0);
    edges("a new CRANE empties it", of(x.go(0, 1), x.crane(3, -9, 0), x.count(3), x.back(1), x.go(0, 0)), 63, 1, 0, -1, 64);
  }

  /** A yard with BAY 0 whose STACKS have these BOXES (of any kinds), set with nothing in the way. */
  private static BoxYard stacked(int heights, int[] kinds, int[]... stacks) {
    BoxYard x = new BoxYard();
    x.bay(0, 0, heights);
    x.crane(0, 0, 0);
    for (int s = 0; s < stacks.length; s++) x.plugs(0, s, 2);
    for (int kind : kinds) x.box(kind, 100, 100, 1, 0);
    for (int s = 0; s < stacks.length; s++) {
      for (int b : stacks[s]) {
        x.take(0, b);
        Check.that("it is set", x.set(0, s) > 0);
      }
    }
    return x;
  }

  private static long lifts(BoxYard x, int... order) {
    x.forget();
    for (int b : order) x.want(b);
    return x.least(0);
  }

  /** 6 LEAST, promises 32 to 34. */
  private static void orderAndSearches() {
    BoxYard x = stacked(2222, new int[8], new int[] {0, 1}, new int[] {2, 3}, new int[] {4, 5});
    edges("want: UNKNOWN", of(x.want(-1), x.want(8)), -1, -1);
    edges("up to 5 BOXES", of(x.want(0), x.want(1), x.want(2), x.want(3), x.want(4), x.want(5), x.count(10)), 1, 2, 3, 4, 5, -4, 5);
    edges("STATE: it is in it", of(x.want(4), x.forget(), x.forget(), x.want(4), x.want(4)), -3, 5, 0, 1, -3);
    edges("least, UNKNOWN: the BAY, or it was not laid out", of(x.least(-1), x.least(10), x.least(1)), -1, -1, -1);
    edges("6 BOXES, 4 STACKS", of(lifts(x, 0), lifts(x, 5), lifts(x)), 2, 1, 0);
    x.take(0, 6);
    x.set(0, 3);
    edges("OUTSIDE: more than 6 BOXES", of(lifts(x, 5), lifts(x)), -2, -2);
    x.undo();
    edges("STATE: it has not all of THE ORDER", of(lifts(x, 5, 6), lifts(x, 7), lifts(x, 5)), -3, -3, 1);
    x.bay(1, 0, 11111);
    x.bay(2, 0, 1111);
    edges("OUTSIDE: more than 4 STACKS", of(x.forget(), x.least(1), x.least(2)), 1, -2, 0);
    // Five searches were made.
    for (int i = 5; i < 40; i++) {
      x.want(7);
      Check.that("what is refused does not count", x.least(0) == -3 && x.least(1) == -2 && x.least(3) == -1);
      edge("up to the 40th search", i % 2 == 0 ? lifts(x, 5) : lifts(x, 4, 5), i % 2 == 0 ? 1 : 3);
    }
    edges("FULL: the 41st search", of(x.forget(), x.least(0), x.least(2), x.count(8), x.holds()), 2, -4, -4, 3, 0);
    x.clear();
    x.bay(0, 0, 1);
    edge("since the beginning, or clear()", x.least(0), 0);
    BoxYard y = stacked(2, new int[2], new int[] {0, 1});
    for (int i = 0; i < 40; i++) edge("NONE: there is no way", lifts(y, 0), -9);
    edge("one that answers NONE counts", lifts(y, 1), -4);
  }

  private static void liftsHaveNoOtherRule() {
    // OPEN on COLD, EMPTY on TANK, HIGH: brought onto one another, without PLUGS, not APART, in any wind, by no CRANE.
    BoxYard x = stacked(2222, new int[] {1, 3, 2, 5, 4}, new int[] {0, 1}, new int[] {2, 3}, new int[] {4});
    for (int s = 0; s < 3; s++) x.plugs(0, s, 0);
    x.apart(1, 1, 6);
    x.wind(60);
    edges("not full (by HEIGHT; no other rule)", of(lifts(x, 0, 2), x.row(0, 0), x.row(0, 1), x.row(2, 0), x.row(2, 1), x.holds()), 4, 0, 2, 1, 0, 1);
    edges("onto what is OPEN", of(x.alter(0, 1, 2), x.alter(1, 0, 3), x.alter(2, 0, -9), x.alter(3, 1, -9), x.holds()), 1, 1, 1, 1, 1);
    BoxYard y = stacked(212, new int[3], new int[] {0, 1}, new int[] {2});
    edges("a STACK that is not full", of(lifts(y, 0), y.row(0, 1), y.alter(0, 0, 1), y.holds()), 2, 2, 1, 0);
    BoxYard z = stacked(12, new int[3], new int[] {0, 1}, new int[] {2});
    edges("NONE: there is no way", of(lifts(z, 1), lifts(z, 0), z.count(8), z.row(0, 0), lifts(z, 2, 0), lifts(z, 2, 1, 0)), 1, -9, 0, -1, 3, 3);
  }

  /** Promises 35 to 37. */
  private static void rowsAndHolds() {
    BoxYard x = stacked(333, new int[3], new int[] {0, 1, 2});
    edges("holds, STATE: there was none", of(x.holds(), x.row(0, 0), x.alter(0, 0, 0)), -3, -1, -1);
    edges("row: UNKNOWN; OUTSIDE", of(lifts(x, 1), x.row(-1, 0), x.row(2, 0), x.row(0, -1), x.row(0, 2), x.row(1, 1)), 2, -1, -1, -2, -2, -9);
    edges("alter: UNKNOWN; any numbers", of(x.alter(-1, 0, 0), x.alter(2, 0, 0), x.alter(1, MIN, MAX), x.row(1, 0), x.row(1, 1)), -1, -1, 1, MIN, MAX);
    edges("LIFTS alone that may be so", of(x.holds(), x.alter(1, 0, -9), x.holds(), x.alter(0, 0, 0), x.holds(), x.alter(0, 0, 3), x.holds()), 0, 1, 1, 1, 0, 1, 0);
    edges("LIFTS alone that may be so", of(x.alter(0, 1, 2), x.holds(), x.alter(0, -1, 1), x.holds(), x.alter(0, 0, -1), x.holds(), x.alter(0, 0, 2), x.holds()), 1, 0, 1, 0, 1, 0, 1, 1);
    edges("takes out the last of THE ORDER with its last LIFT", of(x.alter(0, 0, 1), x.want(2), x.holds(), x.forget(), x.want(2), x.holds()), 1, 2, 0, 2, 1, 0);
    edges("with THE ORDER empty: THE ROW is", of(x.forget(), x.holds(), x.least(0), x.holds()), 1, 0, 0, 1);
    edges("must be in that BAY", of(x.want(2), x.least(0), x.lift(0, 0), x.holds(), x.set(0, 1), x.holds(), x.undo(), x.undo(), x.holds()), 1, 1, 7, 0, 8, 0, 8, 7, 1);
  }

  private static int task(BoxYard x, int... ops) {
    int task = x.task();
    for (int i = 0; i < ops.length; i += 3) x.op(task, ops[i], ops[i + 1], ops[i + 2]);
    return task;
  }

  /** The answer of a TASK of these OPS, N, the OP that ended it. */
  private static long[] ran(int... ops) {
    BoxYard x = yard();
    return of(x.run(task(x, ops)), x.number(), x.ran(2));
  }

  /** BAY 0 has BOX 0 (PLAIN) on STACK 0, STACK 1 is empty; BAY 1 is empty; CRANE 0 has BOX 1 (HIGH), CRANE 1 none. */
  private static BoxYard yard() {
    BoxYard x = new BoxYard();
    x.bay(0, 0, 22);
    x.bay(1, 0, 1);
    x.crane(0, 0, 0);
    x.crane(3, -9, 5);
    x.box(0, 50, 50, 0, 0);
    x.box(4, 50, 50, 0, 0);
    x.take(0, 0);
    x.set(0, 0);
    x.take(0, 1);
    return x;
  }

  /** The TASKS, promises 38 to 42. */
  private static void tasksAndOps() {
    BoxYard x = new BoxYard();
    edges("before any", of(x.number(), x.ran(0), x.ran(3), x.ran(-1), x.ran(4), x.run(0), x.op(0, 0, 0, 0)), 0, -9, -9, -2, -2, -1, -1);
    edges("TASKS 0 .. 5", of(x.task(), x.task(), x.task(), x.task(), x.task(), x.task(), x.task(), x.count(6)), 0, 1, 2, 3, 4, 5, -4, 6);
    edges("OUTSIDE: the kind (0 .. 15)", of(x.op(0, -1, 0, 0), x.op(0, 0, 0, 0), x.op(0, 15, 0, 0), x.op(0, 16, 0, 0)), -2, 1, 2, -2);
    edges("op: UNKNOWN", of(x.op(-1, 0, 0, 0), x.op(5, 0, 0, 0), x.op(6, 0, 0, 0)), -1, 1, -1);
    for (int i = 2; i < 10; i++) x.op(0, 6, i, 0);
    edges("OPS, 10 at most", of(x.op(0, 6, 0, 0), x.run(0), x.number(), x.ran(3)), -4, 1, 9, 10);
    edges("a TASK without OPS", of(x.run(1), x.number(), x.ran(0), x.ran(1), x.ran(2), x.ran(3)), 1, 0, -9, -9, -9, 0);
    edges("run: UNKNOWN", of(x.run(-1), x.run(6), x.ran(3)), -1, -1, 0);
    edges("Of the latest run(): OUTSIDE", of(x.ran(-1), x.ran(0), x.ran(3), x.ran(4)), -2, -9, 0, -2);
    edges("N becomes a", ran(6, MIN, 0), 1, MIN, -9);
    edges("N (a long)", ran(0, 0, 0, 6, MAX, 0, 7, 1, 0), 1, MAX + 2L, -9);
    edges("by 0", ran(2, 1, 0, 6, 7, 0, 9, 0, 0), -66, 7, 2);
    edges("cut toward 0", ran(2, 0, 0, 6, -1, 0, 9, 0, 0), 1, -1, -9);
    edges("WATTS of a BOX that is not COLD", ran(0, 0, 0, 7, 3, 0), -65, 0, 1);
    edges("KNOWN (else): 4, -1", ran(0, 0, 0, 7, 4, 0, 7, -1, 0), 1, 100, -9);
    edges("its PLACE (else): 2, -1", ran(1, 1, 0, 8, 2, 0, 8, -1, 0), 1, 10, -9);
  }

  private static long[] linked(int... ops) {
    BoxYard x = yard();
    return of(x.run(task(x, ops)), x.ran(0), x.ran(1));
  }

  private static void links() {
    edges("none, if there is none such: BOX", linked(0, 1, 0), 1, 0, 1);
    edges("none, if there is none such: BOX 2", linked(0, 0, 0, 0, 2, 0), 1, -9, -9);
    edges("none, if there is none such: BOX -1", linked(0, 0, 0, 0, -1, 0), 1, -9, -9);
    edges("none, if there is none such: CRANE 2", linked(1, 0, 0, 1, 2, 0), 1, -9, -9);
    edges("(a BAY: it was not laid out)", linked(2, 0, 0, 2, 2, 0), 1, -9, -9);
    edges("none, if there is none such: BAY 10", linked(2, 0, 0, 2, 10, 0), 1, -9, -9);
    edges("TOP (none: it is empty)", linked(2, 0, 0, 3, 1, 0), 1, -9, -9);
    edges("BEYOND: no such STACK", linked(2, 0, 0, 3, 2, 0), -62, 2, 0);
    edges("BEYOND: no such STACK", linked(2, 0, 0, 3, -1, 0), -62, 2, 0);
    edges("no such STACK (behind \"as\")", linked(1, 0, 0, 3, 9, 0), -65, 1, 0);
    edges("no such STACK (behind \"as\")", linked(3, 9, 0), -63, -9, -9);
    edges("its BOX (or none)", linked(1, 1, 0, 4, 0, 0), 1, -9, -9);
    edges("the one right under it (or none): place 0", linked(0, 0, 0, 5, 0, 0), 1, -9, -9);
    edges("the one right under it (or none): in no STACK", linked(0, 1, 0, 5, 0, 0), 1, -9, -9);
    for (int kind : new int[] {3, 4, 5, 7, 8, 9}) edges("NOTHING, if it is none: OP " + kind, linked(kind, 0, 0), -63, -9, -9);
    for (int kind : new int[] {3, 4, 8, 9}) edges("CAST, if LINK is another thing: OP " + kind, linked(0, 0, 0, kind, 0, 0), -65, 0, 0);
    for (int kind : new int[] {5, 7, 10}) edges("CAST, if LINK is another thing: OP " + kind, linked(2, 0, 0, kind, 0, 0), -65, 2, 0);
    for (int a = 0; a <= 7; a++) edges("(of 10, 13 none may be): AS " + a, linked(13, a, 0), 1, -9, -9);
    edges("(else nothing): AS 8", linked(2, 0, 0, 13, 8, 0), 1, 2, 0);
    edges("(else nothing): AS -1", linked(2, 0, 0, 13, -1, 0), 1, 2, 0);
    edges("what it is, too: HIGH as OPEN", linked(0, 1, 0, 13, 3, 0), 1, 0, 1);
    edges("as a KIND: HIGH as PLAIN", linked(0, 1, 0, 13, 0, 0), -65, 0, 1);
  }

  /** Promise 43. */
  private static void shelves() {
    BoxYard x = yard();
    edges("SHELVES 0 .. 3", of(x.shelf(-1, 0), x.shelf(0, 0), x.shelf(3, 0), x.shelf(4, 0)), -1, -9, -9, -1);
    edges("rows of 3 places", of(x.shelf(0, -1), x.shelf(0, 2), x.shelf(0, 3), x.shelf(3, 3)), -1, -9, -1, -1);
    edges("BEYOND: SHELF, ahead of all", of(ran(2, 0, 0, 10, 4, 0)[0], ran(2, 0, 0, 10, -1, 9)[0], ran(11, 4, 0)[0], ran(11, -1, 0)[0], ran(6, -1, 0, 12, 4, 0)[0]), -62, -62, -62, -62, -62);
    edges("CAST, then BEYOND of the place, then FORM", of(ran(2, 0, 0, 10, 1, 3)[0], ran(0, 1, 0, 10, 1, 3)[0], ran(0, 1, 0, 10, 1, -1)[0], ran(0, 1, 0, 10, 1, 2)[0]), -65, -62, -62, -64);
    edges("(of 10 none may be)", of(ran(10, 0, 2)[0], ran(10, 3, 0)[0], ran(10, 0, 3)[0]), 1, 1, -62);
    edges("of BOXES, of PLAIN ones, of COLD ones, of CRANES", of(ran(0, 0, 0, 10, 0, 0)[0], ran(0, 0, 0, 10, 1, 0)[0], ran(0, 0, 0, 10, 2, 0)[0], ran(0, 0, 0, 10, 3, 0)[0]), 1, 1, -64, -65);
    edges("FROM: no such place", of(ran(11, 0, -1)[0], ran(11, 0, 2)[0], ran(11, 0, 3)[0]), -62, 1, -62);
    edges("SIZE (below 0)", of(ran(6, -1, 0, 12, 0, 0)[0], ran(6, 128, 0, 12, 0, 0)[0], ran(6, 255, 0, 12, 0, 0)[0], ran(6, MIN - 1, 0, 12, 0, 0)[0]), -67, -67, -67, -67);
    int[][] sizes = {{0, 0}, {127, 127}, {256, 0}, {257, 1}, {-128 - 1, 127}, {-256, 0}, {MIN, 0}, {0x7FFFFF05, 5}};
    for (int[] size : sizes) {
      BoxYard y = yard();
      edge("N's lowest 8 bits with a sign: " + size[0], y.run(task(y, 6, size[0], 0, 12, 2, 0)), 1);
      edges("a row of so many places: " + size[0], of(y.shelf(2, size[1] - 1), y.shelf(2, size[1])), size[1] == 0 ? -1 : -9, -1);
    }
    edges("a new row, empty", of(x.run(task(x, 0, 0, 0, 10, 0, 1, 6, 3, 0, 12, 0, 0)), x.shelf(0, 1), x.shelf(0, 2), x.shelf(0, 3)), 1, -9, -9, -1);
    edges("SHELVES keep what was laid", of(x.run(task(x, 0, 0, 0, 10, 0, 1, 8, 0, 0)), x.shelf(0, 1)), -65, 0);
  }

  private static void tries() {
    String words = "a FINDING b (0: any) in them ends there";
    // CAST, BEYOND, NOTHING, FORM, NOUGHT, SIZE behind a TRY with each b.
    int[][] meets = {{0, 0, 0, 8, 0, 0}, {2, 0, 0, 3, 9, 0}, {0, 9, 0, 8, 0, 0}, {0, 1, 0, 10, 1, 0}, {2, 1, 0, 9, 0, 0}, {6, -1, 0, 12, 0, 0}};
    int[] findings = {5, 2, 3, 4, 6, 7};
    for (int i = 0; i < meets.length; i++) {
      for (int b = -1; b <= 8; b++) {
        int[] m = meets[i];
        boolean ends = b == 0 || b == findings[i];
        long before = m[0] == 6 ? m[1] : 0;
        edges(words + ": " + findings[i] + " in a TRY of " + b, ran(14, 2, b, m[0], m[1], m[2], m[3], m[4], m[5]),
            ends ? 1 : -60 - findings[i], ends ? findings[i] : before, ends ? -9 : 2);
      }
    }
    edges("it goes on behind them", ran(14, 2, 0, 8, 0, 0, 6, 50, 0, 7, 0, 0), -63, 3, 3);
    edges("the next a OPS: 0", ran(14, 0, 0, 8, 0, 0), -63, 0, 1);
    edges("a below 0 is 0", ran(14, -1, 0, 8, 0, 0), -63, 0, 1);
    edges("a below 0 is 0", ran(14, MIN, 0, 8, 0, 0), -63, 0, 1);
    edges("end where those among which it stands do: all", ran(14, MAX, 0, 6, 1, 0, 8, 0, 0), 1, 3, -9);
    edges("end where those among which it stands do: a TRY", ran(14, 1, 0, 14, 5, 0, 8, 0, 0), -63, 0, 2);
    edges("end where those among which it stands do: a LAST", ran(15, 1, 0, 14, 5, 0, 8, 0, 0), -63, 0, 2);
    edges("TRY as the last OP", ran(6, 4, 0, 14, 3, 0), 1, 4, -9);
  }

  private static void lasts() {
    edges("also when those ended by a FINDING; that goes on then", ran(15, 2, 1, 8, 0, 0, 6, 7, 0, 6, 9, 0, 6, 11, 0), -63, 9, 1);
    edges("or one of the b OPS in its place", ran(15, 1, 2, 8, 0, 0, 0, 0, 0, 8, 0, 0, 6, 11, 0), -65, 0, 3);
    edges("the next a OPS: 0", ran(15, 0, 1, 6, 9, 0, 8, 0, 0), -63, 9, 2);
    edges("the b OPS: 0", ran(15, 1, 0, 8, 0, 0, 6, 9, 0), -63, 0, 1);
    edges("a below 0 is 0", ran(15, MIN, 1, 6, 9, 0), 1, 9, -9);
    edges("b of 15 likewise", ran(15, 1, MIN, 8, 0, 0, 6, 9, 0), -63, 0, 1);
    edges("end where those among which it stands do: a", ran(15, MAX, MAX, 8, 0, 0, 6, 9, 0), -63, 0, 1);
    edges("end where those among which it stands do: b", ran(15, 1, MAX, 8, 0, 0, 6, 9, 0, 6, 10, 0), -63, 10, 1);
    edges("end where those among which it stands do: b in a TRY", ran(14, 2, 3, 15, 1, 5, 8, 0, 0, 6, 9, 0), 1, 9, -9);
    edges("LAST as the last OP", ran(6, 4, 0, 15, 3, 3), 1, 4, -9);
  }

  /** 7 STATUS, THE TRACE; promises 44 to 46. */
  private static void statusTraceFindings() {
    BoxYard x = new BoxYard();
    edges("status, trace, found of a new one", of(x.status(), x.trace(0), x.count(7), x.found(1), x.found(7)), 0, -9, 0, 0, 0);
    edges("a FINDING (1 .. 7)", of(x.found(0), x.found(-1), x.found(8), x.found(-61)), -1, -1, -1, -1);
    x.crane(4, -9, 0);
    edges("what the latest ACT answered, if that is below 0, else 0", of(x.go(0, 10), x.status(), x.go(0, 0), x.status(), x.serve(0), x.status()), -2, -2, 1, 0, -1, -1);
    edges("Mark i of THE TRACE; NONE", of(x.engine(0, 1), x.trace(-1), x.trace(0), x.trace(2), x.trace(3), x.trace(MAX), x.trace(MIN), x.count(7)), 22, -9, 55, 57, -9, -9, -9, 3);
    edges("(also of one that is refused: none): body", of(x.engine(0, 1), x.body(0, 0), x.count(7)), 22, -1, 0);
    edges("(also of one that is refused: none): engine", of(x.engine(0, 1), x.engine(0, 3), x.count(7)), 22, -2, 0);
    edges("(also of one that is refused: none): may", of(x.engine(0, 1), x.may(0, 0), x.count(7)), 22, -3, 0);
    edges("(also of one that is refused: none): run", of(x.engine(0, 1), x.run(0), x.count(7)), 22, -1, 0);
    edges("(also of one that is refused: none): go", of(x.engine(0, 1), x.go(0, 10), x.count(7)), 22, -2, 0);
    edges("(also of one that is refused: none): take", of(x.engine(0, 1), x.take(0, 0), x.count(7)), 22, -1, 0);
    edges("(also of one that is refused: none): set", of(x.engine(0, 1), x.set(0, 0), x.count(7)), 22, -3, 0);
    edges("(also of one that is refused: none): serve", of(x.engine(0, 1), x.serve(0), x.count(7)), 22, -1, 0);
    edges("count: OUTSIDE", of(x.count(-1), x.count(10), x.count(11)), -2, 0, -2);
  }

  /** Promises 47, 48. */
  private static void undoAndBack() {
    BoxYard x = new BoxYard();
    edges("undo, STATE: there is none", of(x.undo(), x.back(0), x.back(1), x.back(-1)), -3, 17, -1, -1);
    x.crane(3, -9, 0);
    long first = x.back(0);
    x.go(0, 1);
    edges("-1: n is below 0, or it has not so many", of(x.back(-1), x.back(MIN), x.back(2), x.back(MAX)), -1, -1, -1, -1);
    edges("before the latest n ACTS (0: now)", of(x.back(1), x.back(0) == first ? 1 : 0, x.undo(), x.back(0), x.back(1), x.undo()), first, 0, 1, first, -1, -3);
    x.box(0, 5, 9, 0, 0);
    x.take(0, 0);
    x.wind(60);
    edges("(whatever RULES say now)", of(x.undo(), x.where(0, 0), x.where(0, 4), x.where(0, 5), x.where(0, 6), x.look(0, 2)), 2, 0, 5, 0, 0, 0);
  }

  /** Promise 50. */
  private static void clearing() {
    BoxYard x = new BoxYard();
    edges("how many BOXES there were: none", of(x.clear(), x.count(4)), 0, 0);
    BoxYard y = full();
    int last = y.count(4);
    edges("how many BOXES there were", of(y.clear(), y.clear(), y.count(4)), 80, 0, last);
    edges("All is as at the beginning", of(y.box(0, 1, 1, 0, 0), y.crane(3, -9, 0), y.ship(1, 1, 1, 0), y.task(), y.want(0), y.bay(0, 0, 1), y.rail(0, 1)), 0, 0, 0, 0, 1, 1, 1);
    edges("but NUMBERS go on", of(y.go(0, 1), y.undo(), y.count(4)), last + 1, last + 1, last + 1);
  }
}
