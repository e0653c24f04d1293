import java.util.ArrayList;
import java.util.List;
import java.util.Random;

/**
 * Promises 16 to 23, 47, 48 by chance: a plain record of what the ACTS that were done have changed, with a whole copy
 * of THE STATE before each, against back(), undo(), where(), look() and sum().
 */
public final class JournalOracleTest {
  private static final int[][] SHIPS = {{2, 2, 2, 0}, {1, 1, 3, 1}};

  /** Of each BOX five numbers, of each CRANE three, of each SHIP two, as THE STATE has them. */
  private record State(List<long[]> boxes, List<long[]> cranes, List<long[]> ships) {
    State copy() {
      State other = new State(new ArrayList<>(), new ArrayList<>(), new ArrayList<>());
      for (long[] b : boxes) other.boxes.add(b.clone());
      for (long[] c : cranes) other.cranes.add(c.clone());
      for (long[] s : ships) other.ships.add(s.clone());
      return other;
    }

    long digest() {
      long h = 17;
      for (List<long[]> part : List.of(boxes, cranes, ships)) {
        for (long[] row : part) {
          for (long n : row) {
            h = (h ^ n) * 0x9E3779B97F4A7C15L;
            h ^= h >>> 29;
          }
        }
      }
      return h;
    }
  }

  private final BoxYard x = new BoxYard();
  private final Random chance;
  private State now = new State(new ArrayList<>(), new ArrayList<>(), new ArrayList<>());
  private final List<State> before = new ArrayList<>();
  private final List<Integer> numbers = new ArrayList<>();
  private final List<int[]> facts = new ArrayList<>();
  private int last = 0;
  private int done = 0;

  private JournalOracleTest(long seed) {
    chance = new Random(seed);
  }

  public static void main(String[] args) {
    int done = 0;
    for (long seed = 0; seed < 300; seed++) done += new JournalOracleTest(seed).work();
    Check.that("many ACTS were done: " + done, done > 10000);
    Check.end();
  }

  private int work() {
    x.bay(0, 0, 3435);
    x.bay(1, 0, 55);
    int[] kinds = {1, 0, 3, 4};
    int[] places = {0, 0, 1, 0};
    for (int c = 0; c < 4; c++) {
      x.crane(kinds[c], c <= 1 ? c : -9, places[c]);
      now.cranes.add(new long[] {places[c], -1, 0});
    }
    addShip();
    for (int i = 0; i < 3; i++) addBox();
    for (int i = 0; i < 110; i++) {
      if (chance.nextInt(12) == 0 && now.boxes.size() < 9) addBox();
      if (chance.nextInt(40) == 0 && now.ships.size() < 2) addShip();
      if (chance.nextInt(60) == 0) undo();
      if (chance.nextInt(6) == 0) plan();
      act();
    }
    for (int n = 0; n <= before.size(); n += 1 + chance.nextInt(4)) Check.due("back(" + n + ")", x.back(n), stateBack(n).digest());
    Check.due("back too far", x.back(before.size() + 1), -1);
    int undone = chance.nextInt(70);
    for (int i = 0; i < undone; i++) undo();
    compare();
    for (int i = 0; i < 10; i++) act();
    Check.due("back(0)", x.back(0), now.digest());
    return done;
  }

  private State stateBack(int n) {
    return n == 0 ? now : before.get(before.size() - n);
  }

  private void addBox() {
    int told = 1 + chance.nextInt(60);
    int real = chance.nextBoolean() ? told : 1 + chance.nextInt(60);
    int port = chance.nextInt(5);
    x.box(0, told, real, 0, port);
    facts.add(new int[] {real, port, -9, 0, 0, 0});
    for (State s : before) s.boxes.add(new long[] {0, 0, 0, 0, told});
    now.boxes.add(new long[] {0, 0, 0, 0, told});
  }

  private void addShip() {
    int[] d = SHIPS[now.ships.size()];
    int ship = x.ship(d[0], d[1], d[2], d[3]);
    for (int port = 0; port < 4; port++) x.route(ship, port);
    for (State s : before) s.ships.add(new long[] {0, 0});
    now.ships.add(new long[] {0, 0});
  }

  private void plan() {
    int box = chance.nextInt(now.boxes.size());
    int ship = chance.nextInt(now.ships.size());
    int[] at = {chance.nextInt(2), chance.nextInt(2), chance.nextInt(2)};
    if (x.plan(box, ship, at[0], at[1], at[2]) == 1) {
      facts.get(box)[2] = ship;
      System.arraycopy(at, 0, facts.get(box), 3, 3);
    }
  }

  private void act() {
    int c = chance.nextInt(4);
    int ship = chance.nextInt(now.ships.size());
    int stack = chance.nextInt(4);
    int box = chance.nextInt(now.boxes.size());
    int place = chance.nextInt(4) == 0 ? chance.nextInt(10) : chance.nextInt(2);
    long held = now.cranes.get(c)[1];
    State then = now.copy();
    switch (chance.nextInt(held < 0 ? 5 : 8)) {
      case 0: done(x.go(c, place), then, () -> now.cranes.get(c)[0] = place); break;
      case 1: done(x.take(c, box), then, () -> hold(c, box)); break;
      case 2: done(x.lift(c, stack), then, () -> hold(c, topOf(now.cranes.get(c)[0], stack))); break;
      case 3:
        int sx = chance.nextInt(2);
        int sy = chance.nextInt(2);
        done(x.fetch(c, ship, sx, sy), then, () -> fetch(c, ship, sx, sy));
        break;
      case 4:
        if (chance.nextInt(4) == 0) done(x.serve(ship), then, () -> now.ships.get(ship)[0]++);
        break;
      case 5:
        if (chance.nextInt(4) == 0) done(x.drop(c), then, () -> leave(c, 4, 0, 0, 0));
        break;
      case 6: done(x.set(c, stack), then, () -> set(c, stack)); break;
      default: done(x.load(c), then, () -> load(c)); break;
    }
  }

  private void done(int answer, State then, Runnable change) {
    if (answer < 0) {
      Check.due("the NUMBER stays", x.count(4), last);
      return;
    }
    Check.due("the NUMBER", answer, ++last);
    change.run();
    before.add(then);
    numbers.add(answer);
    done++;
    if (before.size() > 60) {
      before.remove(0);
      numbers.remove(0);
    }
  }

  private int topOf(long bay, int stack) {
    int top = -1;
    for (int b = 0; b < now.boxes.size(); b++) {
      long[] row = now.boxes.get(b);
      if (row[0] == 1 && row[1] == bay && row[2] == stack && (top < 0 || row[3] > now.boxes.get(top)[3])) top = b;
    }
    return top;
  }

  private void hold(int crane, int box) {
    now.boxes.set(box, new long[] {2, crane, 0, 0, facts.get(box)[0]});
    now.cranes.get(crane)[1] = box;
    now.cranes.get(crane)[2]++;
  }

  private void leave(int crane, long where, long first, long second, long third) {
    int box = (int) now.cranes.get(crane)[1];
    now.boxes.set(box, new long[] {where, first, second, third, facts.get(box)[0]});
    now.cranes.get(crane)[1] = -1;
  }

  private void set(int crane, int stack) {
    long bay = now.cranes.get(crane)[0];
    int top = topOf(bay, stack);
    leave(crane, 1, bay, stack, top < 0 ? 0 : now.boxes.get(top)[3] + 1);
  }

  private void load(int crane) {
    int[] fact = facts.get((int) now.cranes.get(crane)[1]);
    int[] d = SHIPS[fact[2]];
    leave(crane, 3, fact[2], fact[3] + d[0] * (fact[4] + d[1] * fact[5]), 0);
  }

  private void fetch(int crane, int ship, int sx, int sy) {
    int[] d = SHIPS[ship];
    int top = -1;
    for (int z = 0; z < d[2]; z++) {
      for (int b = 0; b < now.boxes.size(); b++) {
        long[] row = now.boxes.get(b);
        if (row[0] == 3 && row[1] == ship && row[2] == sx + d[0] * (sy + d[1] * z)) top = b;
      }
    }
    hold(crane, top);
    int port = facts.get(top)[1];
    if (port < 4 && port > now.ships.get(ship)[0]) now.ships.get(ship)[1]++;
  }

  private void undo() {
    int at = before.size() - 1;
    Check.due("undo", x.undo(), at < 0 ? -3 : numbers.get(at));
    if (at < 0) return;
    now = before.remove(at);
    numbers.remove(at);
  }

  private void compare() {
    for (int b = 0; b < now.boxes.size(); b++) {
      for (int what = 0; what < 5; what++) Check.due("where(" + b + ", " + what + ")", x.where(b, what), now.boxes.get(b)[what]);
    }
    for (int c = 0; c < 4; c++) {
      long[] row = now.cranes.get(c);
      Check.due("PLACE", x.look(c, 0), row[0]);
      Check.due("its BOX", x.look(c, 1), row[1] < 0 ? -9 : row[1]);
      Check.due("LIFTS", x.look(c, 2), row[2]);
    }
    for (int s = 0; s < now.ships.size(); s++) {
      Check.due("SERVED", x.sum(s, 5), now.ships.get(s)[0]);
      Check.due("DIGS", x.sum(s, 4), now.ships.get(s)[1]);
    }
    Check.due("ACTS", x.count(3), before.size());
  }
}
