import java.util.ArrayDeque;
import java.util.ArrayList;
import java.util.HashSet;
import java.util.List;
import java.util.Set;

/**
 * The document once more, as plainly as the Java library lets it be written: what ModelTest holds BoxYard against.
 * KINDS are classes, FINDINGS of runs are what the Java machine throws, and the journal has whole copies.
 */
final class Model {
  private static final int UNKNOWN = -1, OUTSIDE = -2, STATE = -3, FULL = -4, NONE = -9;

  /** A RULE or a FINDING that is met, by what is answered then. */
  private static final class Met extends RuntimeException {
    final int answer;
    final int op;

    Met(int answer, int op) {
      super(null, null, false, false);
      this.answer = answer;
      this.op = op;
    }

    int finding() {
      return -60 - answer;
    }
  }

  private static Met rule(int n) {
    return new Met(-40 - n, NONE);
  }

  private static Met finding(int n) {
    return new Met(-60 - n, NONE);
  }

  // ---- the KINDS

  private class Box {
    int number, kind, told, real, danger, port;
    int where, a, b, c;
    boolean weighed;
    int linkShip = NONE, x, y, z;
    int linkTold;

    int known() {
      return weighed ? real : told;
    }

    int bears() {
      throw new IllegalStateException();
    }

    int tall() {
      mark(10);
      mark(17);
      return 2;
    }

    int fee() {
      mark(20);
      return known() / 10 + 5;
    }

    void stand(int newWhere, int newA, int newB, int newC) {
      where = newWhere;
      a = newA;
      b = newB;
      c = newC;
    }
  }

  private class Plain extends Box {
    @Override int bears() {
      mark(1);
      return 900;
    }
  }

  private final class Cold extends Plain {
    @Override int bears() {
      mark(2);
      return super.bears() - 300;
    }

    @Override int fee() {
      mark(22);
      return super.fee() + 40;
    }

    int watts() {
      mark(32);
      return 4 + known() / 100;
    }
  }

  private final class Tank extends Plain {
    @Override int bears() {
      mark(3);
      return super.bears() / 4;
    }

    @Override int fee() {
      mark(23);
      return super.fee() + 10 * danger;
    }
  }

  private class Open extends Box {
    @Override int bears() {
      mark(4);
      return 0;
    }

    @Override int fee() {
      mark(24);
      return 2 * super.fee();
    }
  }

  private final class High extends Open {
    @Override int tall() {
      mark(15);
      return super.tall() + 1;
    }

    @Override int fee() {
      mark(25);
      return super.fee() + 30;
    }
  }

  private final class Empty extends Plain {
    @Override int bears() {
      mark(6);
      return super.bears() / 3;
    }

    @Override int tall() {
      mark(16);
      return 1;
    }

    @Override int fee() {
      mark(26);
      mark(27);
      return 3;
    }
  }

  private abstract class Crane {
    int number, rail, place, lifts, fails;

    abstract int load();

    abstract boolean reaches(int s, int t);

    int stop() {
      mark(50);
      mark(57);
      return 20;
    }

    Box held() {
      for (Box box : boxes) if (box.where == 2 && box.a == number) return box;
      return null;
    }
  }

  private class Gantry extends Crane {
    @Override int load() {
      mark(41);
      return 300;
    }

    @Override int stop() {
      mark(51);
      return 25;
    }

    @Override boolean reaches(int s, int t) {
      mark(61);
      return true;
    }
  }

  private final class Quay extends Gantry {
    @Override int load() {
      mark(42);
      return super.load() + 100;
    }

    @Override int stop() {
      mark(52);
      return super.stop() - 5;
    }

    @Override boolean reaches(int s, int t) {
      mark(62);
      return s > 1 ? false : super.reaches(s, t);
    }
  }

  private final class Railed extends Gantry {
    @Override int load() {
      mark(43);
      return super.load() - 50;
    }

    @Override boolean reaches(int s, int t) {
      mark(63);
      return t > 3 ? false : super.reaches(s, t);
    }
  }

  private class Straddle extends Crane {
    @Override int load() {
      mark(44);
      return 200;
    }

    @Override boolean reaches(int s, int t) {
      mark(64);
      return t <= 2;
    }
  }

  private final class Reach extends Straddle {
    @Override int load() {
      mark(45);
      return super.load() / 2 + 150;
    }

    @Override int stop() {
      mark(55);
      return super.stop() + 2;
    }

    @Override boolean reaches(int s, int t) {
      mark(65);
      return s == 0 ? true : super.reaches(s, t);
    }
  }

  private final class Bay {
    int number, form;
    int[] heights;
    int[] plugs;

    /** A STACK's BOXES from place 0 on. */
    Box[] stack(int s) {
      List<Box> all = new ArrayList<>();
      for (int t = 0; t < heights[s]; t++) for (Box box : boxes) if (box.where == 1 && box.a == number && box.b == s && box.c == t) all.add(box);
      return all.toArray(new Box[0]);
    }

    List<Box> all() {
      List<Box> all = new ArrayList<>();
      for (int s = 0; s < heights.length; s++) all.addAll(List.of(stack(s)));
      return all;
    }

    boolean takes(Box box) {
      return form == 0 || (form == 1 && box instanceof Cold) || (form == 2 && box instanceof Empty) || (form == 3 && box instanceof Plain);
    }
  }

  private final class Ship {
    int number, nx, ny, nz, berth, left, digs;
    int[] limits = {1000000, 1000000, 1000000};
    List<Integer> route = new ArrayList<>();

    boolean has(int x, int y, int z) {
      return x >= 0 && x < nx && y >= 0 && y < ny && z >= 0 && z < nz;
    }

    Box at(int x, int y, int z) {
      for (Box box : boxes) if (box.where == 3 && box.a == number && box.b == x + nx * (y + ny * z)) return box;
      return null;
    }

    /** What a BOX that comes to where its LINK leads meets, with these BOXES (by x, y, z) in it. */
    void meet(List<int[]> in, Box box) {
      if (!has(box.x, box.y, box.z)) throw finding(2);
      boolean taken = false;
      boolean below = box.z == 0;
      for (int[] other : in) {
        taken |= other[0] == box.x && other[1] == box.y && other[2] == box.z;
        below |= other[0] == box.x && other[1] == box.y && other[2] == box.z - 1;
      }
      if (taken || !below) throw rule(12);
      List<int[]> then = new ArrayList<>(in);
      then.add(new int[] {box.x, box.y, box.z, box.known()});
      for (int what = 0; what <= 2; what++) if (Math.abs(sumOf(then, what)) > limits[what]) throw rule(13);
    }

    List<int[]> in() {
      List<int[]> in = new ArrayList<>();
      for (int z = 0; z < nz; z++) for (int y = 0; y < ny; y++) for (int x = 0; x < nx; x++) {
        if (at(x, y, z) != null) in.add(new int[] {x, y, z, at(x, y, z).known()});
      }
      return in;
    }

    int sumOf(List<int[]> in, int what) {
      int sum = 0;
      for (int[] b : in) sum += b[3] * (what == 0 ? 2 * b[0] + 1 - nx : what == 1 ? 2 * b[1] + 1 - ny : what == 2 ? b[2] : 1);
      return sum;
    }
  }

  /** THE STATE in rows: of each BOX where, three numbers, WEIGHED; of each CRANE PLACE, LIFTS; of each SHIP left, DIGS. */
  private record Copy(int number, List<int[]> boxes, List<int[]> cranes, List<int[]> ships) {
  }

  private record Op(int kind, int a, int b) {
  }

  private List<Box> boxes;
  private Bay[] bays;
  private List<Crane> cranes;
  private List<Ship> ships;
  private int[] gaps;
  private int[][] aparts;
  private int wind;
  private int[] found;
  private List<Integer> marks;
  private int status;
  private List<Copy> journal;
  private int lastNumber = 0;
  private int links;
  private int[] broke;
  private List<Box> order;
  private List<int[]> row;
  private Bay dug;
  private int searches;
  private List<List<Op>> tasks;
  private Object[][] shelves;
  private Object link;
  private long n;
  private boolean ran;
  private int began, endedAt;

  Model() {
    begin();
  }

  private void begin() {
    boxes = new ArrayList<>();
    bays = new Bay[10];
    cranes = new ArrayList<>();
    ships = new ArrayList<>();
    gaps = new int[] {1, 1, 1};
    aparts = new int[5][5];
    wind = 0;
    found = new int[8];
    marks = new ArrayList<>();
    status = 0;
    journal = new ArrayList<>();
    links = 0;
    broke = new int[] {NONE, NONE, NONE};
    order = new ArrayList<>();
    row = new ArrayList<>();
    dug = null;
    searches = 0;
    tasks = new ArrayList<>();
    shelves = new Object[][] {new Box[3], new Plain[3], new Cold[3], new Crane[3]};
    link = null;
    n = 0;
    ran = false;
  }

  private void mark(int m) {
    if (marks.size() < 100) marks.add(m);
  }

  private static <T> T at(List<T> all, int i) {
    return i >= 0 && i < all.size() ? all.get(i) : null;
  }

  private Bay laid(int bay) {
    return bay >= 0 && bay <= 9 ? bays[bay] : null;
  }

  private static boolean in(int i, int least, int most) {
    return least <= i && i <= most;
  }

  private int counted(int answer) {
    if (in(answer, -67, -61)) found[-60 - answer]++;
    return answer;
  }

  // ---- 1 boxes

  int box(int kind, int told, int real, int danger, int port) {
    if (!in(kind, 0, 5) || !in(told, 1, 400) || !in(real, 1, 400) || !in(danger, 0, 4) || !in(port, 0, 7)) return OUTSIDE;
    if (boxes.size() == 80) return FULL;
    Box[] kinds = {new Plain(), new Cold(), new Tank(), new Open(), new High(), new Empty()};
    Box box = kinds[kind];
    box.number = boxes.size();
    box.kind = kind;
    box.told = told;
    box.real = real;
    box.danger = danger;
    box.port = port;
    boxes.add(box);
    return box.number;
  }

  int body(int box, int what) {
    marks.clear();
    Box b = at(boxes, box);
    if (b == null) return UNKNOWN;
    if (!in(what, 0, 3)) return OUTSIDE;
    if (what == 3) return b instanceof Cold ? ((Cold) b).watts() : counted(-65);
    return what == 0 ? b.bears() : what == 1 ? b.tall() : b.fee();
  }

  int where(int box, int what) {
    Box b = at(boxes, box);
    if (b == null) return UNKNOWN;
    if (!in(what, 0, 9)) return OUTSIDE;
    return new int[] {b.where, b.a, b.b, b.c, b.known(), b.weighed ? 1 : 0, b.weighed && b.told != b.real ? 1 : 0, b.linkShip, b.kind,
      b.port}[what];
  }

  // ---- 2 bays

  int bay(int bay, int form, int heights) {
    if (!in(bay, 0, 9)) return UNKNOWN;
    if (!in(form, 0, 3) || !Integer.toString(heights).matches("[1-5]{1,6}")) return OUTSIDE;
    if (bays[bay] != null) return STATE;
    String digits = new StringBuilder(Integer.toString(heights)).reverse().toString();
    Bay b = new Bay();
    b.number = bay;
    b.form = form;
    b.heights = digits.chars().map(d -> d - '0').toArray();
    b.plugs = new int[b.heights.length];
    bays[bay] = b;
    journal.clear();
    return b.heights.length;
  }

  int plugs(int bay, int stack, int n) {
    Bay b = laid(bay);
    if (b == null || !in(stack, 0, b.heights.length - 1)) return UNKNOWN;
    if (!in(n, 0, b.heights[stack])) return OUTSIDE;
    int before = b.plugs[stack];
    b.plugs[stack] = n;
    return before;
  }

  int apart(int danger, int other, int n) {
    if (!in(danger, 1, 4) || !in(other, 1, 4) || !in(n, 0, 6)) return OUTSIDE;
    int low = Math.min(danger, other);
    int high = Math.max(danger, other);
    int before = aparts[low][high];
    aparts[low][high] = n;
    return before;
  }

  int stack(int bay, int stack, int place) {
    Bay b = laid(bay);
    if (b == null || !in(stack, 0, b.heights.length - 1) || !in(place, 0, b.heights[stack] - 1)) return UNKNOWN;
    Box[] all = b.stack(stack);
    return place < all.length ? all[place].number : NONE;
  }

  int share(int bay) {
    if (!in(bay, 0, 9)) return UNKNOWN;
    if (bays[bay] == null) return counted(-61);
    List<Box> all = bays[bay].all();
    if (all.isEmpty()) return counted(-66);
    return all.stream().mapToInt(Box::known).sum() / all.size();
  }

  // ---- 3 cranes

  /** Whether those of a RAIL stand as RULE 7 wants it, if one of them (or a new one, as the last) stands at a PLACE. */
  private boolean stand(int rail, int gap, int crane, int place) {
    List<Integer> places = new ArrayList<>();
    for (Crane c : cranes) if (c.rail == rail) places.add(c.number == crane ? place : c.place);
    if (crane == cranes.size()) places.add(place);
    for (int i = 1; i < places.size(); i++) if (places.get(i) < places.get(i - 1) + gap) return false;
    return true;
  }

  int rail(int rail, int gap) {
    if (!in(rail, 0, 2)) return UNKNOWN;
    if (!in(gap, 1, 4)) return OUTSIDE;
    if (!stand(rail, gap, NONE, 0)) return -47;
    int before = gaps[rail];
    gaps[rail] = gap;
    journal.clear();
    return before;
  }

  int crane(int kind, int rail, int place) {
    if (!in(kind, 0, 4)) return OUTSIDE;
    if (kind <= 2 ? !in(rail, 0, 2) : rail != NONE) return UNKNOWN;
    if (!in(place, 0, 9)) return OUTSIDE;
    if (cranes.size() == 12) return FULL;
    if (kind <= 2 && !stand(rail, gaps[rail], cranes.size(), place)) return -47;
    Crane[] kinds = {new Gantry(), new Quay(), new Railed(), new Straddle(), new Reach()};
    Crane c = kinds[kind];
    c.number = cranes.size();
    c.rail = rail;
    c.place = place;
    cranes.add(c);
    journal.clear();
    return c.number;
  }

  int wind(int n) {
    if (!in(n, 0, 60)) return OUTSIDE;
    int before = wind;
    wind = n;
    return before;
  }

  int engine(int crane, int what) {
    marks.clear();
    Crane c = at(cranes, crane);
    if (c == null) return UNKNOWN;
    if (!in(what, 0, 2)) return OUTSIDE;
    if (what == 0) return c.load();
    if (what == 1) return c.stop();
    if (!(c instanceof Quay)) return counted(-65);
    return ships.isEmpty() ? counted(-63) : ships.get(0).berth;
  }

  int look(int crane, int what) {
    Crane c = at(cranes, crane);
    if (c == null) return UNKNOWN;
    if (!in(what, 0, 5)) return OUTSIDE;
    Box held = c.held();
    return new int[] {c.place, held == null ? NONE : held.number, c.lifts, c.fails, 1, c.rail}[what];
  }

  int may(int crane, int stack) {
    marks.clear();
    Crane c = at(cranes, crane);
    if (c == null) return UNKNOWN;
    if (c.held() == null) return STATE;
    try {
      meetSetting(c, stack);
      return 0;
    } catch (Met met) {
      return met.answer;
    }
  }

  // ---- acts

  private int refused(int answer) {
    status = answer;
    return answer;
  }

  /** An ACT of a CRANE behind UNKNOWN, OUTSIDE, STATE. */
  private int act(Crane c, Runnable meet, Runnable change) {
    try {
      if (wind > c.stop()) throw rule(6);
      meet.run();
    } catch (Met met) {
      c.fails++;
      status = met.answer;
      return counted(met.answer);
    }
    return done(change);
  }

  private int done(Runnable change) {
    lastNumber++;
    journal.add(copy(lastNumber));
    if (journal.size() > 60) journal.remove(0);
    change.run();
    status = 0;
    return lastNumber;
  }

  private void hold(Crane c, Box box) {
    box.stand(2, c.number, 0, 0);
    box.weighed = true;
    c.lifts++;
  }

  int go(int crane, int place) {
    marks.clear();
    Crane c = at(cranes, crane);
    if (c == null) return refused(UNKNOWN);
    if (!in(place, 0, 9)) return refused(OUTSIDE);
    return act(c, () -> {
      if (c.rail != NONE && !stand(c.rail, gaps[c.rail], crane, place)) throw rule(7);
    }, () -> c.place = place);
  }

  int take(int crane, int box) {
    marks.clear();
    Crane c = at(cranes, crane);
    Box b = at(boxes, box);
    if (c == null || b == null) return refused(UNKNOWN);
    if (c.held() != null || b.where != 0) return refused(STATE);
    return act(c, () -> {
      if (c.place != 0) throw rule(10);
      if (b.known() > c.load()) throw rule(9);
    }, () -> hold(c, b));
  }

  int lift(int crane, int stack) {
    marks.clear();
    Crane c = at(cranes, crane);
    if (c == null) return refused(UNKNOWN);
    if (c.held() != null) return refused(STATE);
    Box[] top = new Box[1];
    return act(c, () -> {
      Bay bay = bays[c.place];
      if (bay == null) throw finding(1);
      if (!in(stack, 0, bay.heights.length - 1)) throw finding(2);
      Box[] all = bay.stack(stack);
      if (all.length == 0) throw finding(3);
      top[0] = all[all.length - 1];
      if (!c.reaches(stack, all.length - 1)) throw rule(8);
      if (top[0].known() > c.load()) throw rule(9);
    }, () -> hold(c, top[0]));
  }

  private void meetSetting(Crane c, int s) {
    if (wind > c.stop()) throw rule(6);
    meetSettingInNoWind(c, s);
  }

  private void meetSettingInNoWind(Crane c, int s) {
    Box box = c.held();
    Bay bay = bays[c.place];
    if (bay == null) throw finding(1);
    if (!in(s, 0, bay.heights.length - 1)) throw finding(2);
    Box[] all = bay.stack(s);
    int t = all.length;
    if (t == bay.heights[s]) throw finding(2);
    if (!c.reaches(s, t)) throw rule(8);
    if (t > 0 && (all[t - 1] instanceof Open || (all[t - 1] instanceof Empty && !(box instanceof Empty)))) throw rule(1);
    for (int i = 0; i < t; i++) {
      int above = box.known();
      for (int j = i + 1; j < t; j++) above += all[j].known();
      if (above > all[i].bears()) throw rule(2);
    }
    if (box instanceof Cold && t >= bay.plugs[s]) throw rule(3);
    for (Box other : bay.all()) {
      if (other.danger == 0 || box.danger == 0) continue;
      int apart = aparts[Math.min(other.danger, box.danger)][Math.max(other.danger, box.danger)];
      if (Math.abs(other.b - s) < apart) throw rule(4);
    }
    int tall = 0;
    for (Box other : all) tall += other.tall();
    if (tall + box.tall() > 2 * bay.heights[s] + 1) throw rule(5);
    if (!bay.takes(box)) throw finding(4);
  }

  int set(int crane, int stack) {
    marks.clear();
    Crane c = at(cranes, crane);
    if (c == null) return refused(UNKNOWN);
    Box box = c.held();
    if (box == null) return refused(STATE);
    return act(c, () -> meetSettingInNoWind(c, stack), () -> box.stand(1, c.place, stack, bays[c.place].stack(stack).length));
  }

  int drop(int crane) {
    marks.clear();
    Crane c = at(cranes, crane);
    if (c == null) return refused(UNKNOWN);
    Box box = c.held();
    if (box == null) return refused(STATE);
    return act(c, () -> {
      if (c.place != 0) throw rule(10);
    }, () -> box.stand(4, 0, 0, 0));
  }

  int load(int crane) {
    marks.clear();
    Crane c = at(cranes, crane);
    if (c == null) return refused(UNKNOWN);
    Box box = c.held();
    if (box == null) return refused(STATE);
    return act(c, () -> {
      if (!(c instanceof Quay)) throw finding(5);
      if (box.linkShip == NONE) throw finding(3);
      Ship ship = ships.get(box.linkShip);
      if (c.place != ship.berth) throw rule(11);
      ship.meet(ship.in(), box);
    }, () -> {
      Ship ship = ships.get(box.linkShip);
      box.stand(3, ship.number, box.x + ship.nx * (box.y + ship.ny * box.z), 0);
    });
  }

  int fetch(int crane, int ship, int x, int y) {
    marks.clear();
    Crane c = at(cranes, crane);
    Ship s = at(ships, ship);
    if (c == null || s == null) return refused(UNKNOWN);
    if (c.held() != null) return refused(STATE);
    Box[] top = new Box[1];
    return act(c, () -> {
      if (!(c instanceof Quay)) throw finding(5);
      if (c.place != s.berth) throw rule(11);
      if (!s.has(x, y, 0)) throw finding(2);
      for (int z = 0; z < s.nz; z++) if (s.at(x, y, z) != null) top[0] = s.at(x, y, z);
      if (top[0] == null) throw finding(3);
    }, () -> {
      if (s.route.contains(top[0].port) && s.route.indexOf(top[0].port) > s.left) s.digs++;
      hold(c, top[0]);
    });
  }

  int serve(int ship) {
    marks.clear();
    Ship s = at(ships, ship);
    if (s == null) return refused(UNKNOWN);
    if (s.route.isEmpty() || s.left == s.route.size() - 1) return refused(STATE);
    return done(() -> s.left++);
  }

  // ---- 4 ships

  int ship(int nx, int ny, int nz, int berth) {
    if (!in(nx, 1, 6) || !in(ny, 1, 3) || !in(nz, 1, 3) || !in(berth, 0, 9)) return OUTSIDE;
    if (ships.size() == 3) return FULL;
    Ship s = new Ship();
    s.number = ships.size();
    s.nx = nx;
    s.ny = ny;
    s.nz = nz;
    s.berth = berth;
    ships.add(s);
    return s.number;
  }

  int limit(int ship, int what, int n) {
    Ship s = at(ships, ship);
    if (s == null) return UNKNOWN;
    if (!in(what, 0, 2) || !in(n, 0, 1000000)) return OUTSIDE;
    int before = s.limits[what];
    s.limits[what] = n;
    return before;
  }

  int route(int ship, int port) {
    Ship s = at(ships, ship);
    if (s == null) return UNKNOWN;
    if (!in(port, 0, 7)) return OUTSIDE;
    if (s.route.contains(port)) return STATE;
    s.route.add(port);
    return s.route.size();
  }

  int plan(int box, int ship, int x, int y, int z) {
    Box b = at(boxes, box);
    if (b == null || (ship != NONE && at(ships, ship) == null)) return UNKNOWN;
    if (ship != NONE && !(in(x, -9, 9) && in(y, -9, 9) && in(z, -9, 9))) return OUTSIDE;
    if (b.where == 3) return STATE;
    b.linkShip = ship;
    b.x = x;
    b.y = y;
    b.z = z;
    b.linkTold = ++links;
    return 1;
  }

  int sum(int ship, int what) {
    Ship s = at(ships, ship);
    if (s == null) return -2000000001;
    if (!in(what, 0, 6)) return -2000000002;
    if (what == 4) return s.digs;
    if (what == 5) return s.route.isEmpty() ? NONE : s.route.get(s.left);
    return what == 6 ? s.in().size() : s.sumOf(s.in(), what);
  }

  int mean(int ship) {
    Ship s = at(ships, ship);
    if (s == null) return UNKNOWN;
    if (s.in().isEmpty()) return counted(-66);
    return s.sumOf(s.in(), 2) / s.sumOf(s.in(), 3);
  }

  int stable(int ship) {
    Ship s = at(ships, ship);
    if (s == null) return UNKNOWN;
    List<Box> come = new ArrayList<>();
    for (Box b : boxes) if (b.linkShip == ship && b.where != 4 && !(b.where == 3 && b.a == ship)) come.add(b);
    come.sort(java.util.Comparator.comparingInt(b -> b.linkTold));
    List<int[]> in = s.in();
    int ahead = 0;
    for (Box b : come) {
      try {
        s.meet(in, b);
      } catch (Met met) {
        broke = new int[] {b.number, ahead, met.answer};
        return 0;
      }
      in.add(new int[] {b.x, b.y, b.z, b.known()});
      ahead++;
    }
    broke = new int[] {NONE, NONE, NONE};
    return 1;
  }

  int broke(int what) {
    return in(what, 0, 2) ? broke[what] : OUTSIDE;
  }

  // ---- 6 least

  int want(int box) {
    Box b = at(boxes, box);
    if (b == null) return UNKNOWN;
    if (order.contains(b)) return STATE;
    if (order.size() == 5) return FULL;
    order.add(b);
    return order.size();
  }

  int forget() {
    int before = order.size();
    order.clear();
    return before;
  }

  private boolean hasOrder(Bay bay) {
    return bay.all().containsAll(order);
  }

  int least(int bay) {
    Bay b = laid(bay);
    if (b == null) return UNKNOWN;
    if (b.heights.length > 4 || b.all().size() > 6) return OUTSIDE;
    if (!hasOrder(b)) return STATE;
    if (searches == 40) return FULL;
    searches++;
    List<int[]> shortest = shortest(b);
    row = shortest == null ? new ArrayList<>() : shortest;
    if (shortest == null) return NONE;
    dug = b;
    return row.size();
  }

  private record Spot(List<String> stacks, int out, List<int[]> row) {
  }

  private List<String> texts(Bay bay) {
    List<String> texts = new ArrayList<>();
    for (int s = 0; s < bay.heights.length; s++) {
      StringBuilder text = new StringBuilder();
      for (Box box : bay.stack(s)) text.append((char) box.number);
      texts.add(text.toString());
    }
    return texts;
  }

  /** The spot behind one LIFT, or null: it may not be so. */
  private Spot lifted(Bay bay, Spot spot, int from, int to) {
    if (spot.out == order.size() || !in(from, 0, bay.heights.length - 1) || spot.stacks.get(from).isEmpty()) return null;
    String stack = spot.stacks.get(from);
    char top = stack.charAt(stack.length() - 1);
    List<String> next = new ArrayList<>(spot.stacks);
    next.set(from, stack.substring(0, stack.length() - 1));
    if (to == NONE) {
      if (order.get(spot.out).number != top) return null;
    } else {
      if (to == from || !in(to, 0, bay.heights.length - 1) || spot.stacks.get(to).length() == bay.heights[to]) return null;
      next.set(to, next.get(to) + top);
    }
    List<int[]> longer = new ArrayList<>(spot.row);
    longer.add(new int[] {from, to});
    return new Spot(next, spot.out + (to == NONE ? 1 : 0), longer);
  }

  private List<int[]> shortest(Bay bay) {
    ArrayDeque<Spot> open = new ArrayDeque<>();
    Set<List<String>> seen = new HashSet<>();
    open.add(new Spot(texts(bay), 0, new ArrayList<>()));
    seen.add(texts(bay));
    while (!open.isEmpty()) {
      Spot spot = open.poll();
      if (spot.out == order.size()) return spot.row;
      for (int from = 0; from < bay.heights.length; from++) {
        for (int to = -1; to < bay.heights.length; to++) {
          Spot next = lifted(bay, spot, from, to < 0 ? NONE : to);
          if (next != null && seen.add(next.stacks)) open.add(next);
        }
      }
    }
    return null;
  }

  int row(int i, int what) {
    if (!in(i, 0, row.size() - 1)) return UNKNOWN;
    return in(what, 0, 1) ? row.get(i)[what] : OUTSIDE;
  }

  int alter(int i, int from, int to) {
    if (!in(i, 0, row.size() - 1)) return UNKNOWN;
    row.set(i, new int[] {from, to});
    return 1;
  }

  int holds() {
    if (dug == null) return STATE;
    if (order.isEmpty()) return row.isEmpty() ? 1 : 0;
    if (!hasOrder(dug)) return 0;
    Spot spot = new Spot(texts(dug), 0, new ArrayList<>());
    for (int[] lift : row) {
      spot = lifted(dug, spot, lift[0], lift[1]);
      if (spot == null) return 0;
    }
    return spot.out == order.size() ? 1 : 0;
  }

  // ---- tasks

  int task() {
    if (tasks.size() == 6) return FULL;
    tasks.add(new ArrayList<>());
    return tasks.size() - 1;
  }

  int op(int task, int kind, int a, int b) {
    List<Op> ops = at(tasks, task);
    if (ops == null) return UNKNOWN;
    if (!in(kind, 0, 15)) return OUTSIDE;
    if (ops.size() == 10) return FULL;
    ops.add(new Op(kind, a, b));
    return ops.size();
  }

  int run(int task) {
    marks.clear();
    List<Op> ops = at(tasks, task);
    if (ops == null) return UNKNOWN;
    ran = true;
    link = null;
    n = 0;
    began = 0;
    endedAt = NONE;
    try {
      work(ops, 0, ops.size());
      return 1;
    } catch (Met met) {
      endedAt = met.op;
      return counted(met.answer);
    }
  }

  /** OPS up to one; what the machine refuses is what they meet. */
  private void work(List<Op> ops, int from, int end) {
    int i = from;
    while (i < end) {
      Op op = ops.get(i);
      began++;
      if (op.kind == 14) {
        int stop = (int) Math.min(end, i + 1L + Math.max(0, op.a));
        try {
          work(ops, i + 1, stop);
        } catch (Met met) {
          if (op.b != 0 && op.b != met.finding()) throw met;
          n = met.finding();
        }
        i = stop;
      } else if (op.kind == 15) {
        int middle = (int) Math.min(end, i + 1L + Math.max(0, op.a));
        int stop = (int) Math.min(end, (long) middle + Math.max(0, op.b));
        try {
          work(ops, i + 1, middle);
        } finally {
          work(ops, middle, stop);
        }
        i = stop;
      } else {
        one(op, i);
        i++;
      }
    }
  }

  private void one(Op op, int i) {
    try {
      one(op);
    } catch (ArrayIndexOutOfBoundsException e) {
      throw new Met(-62, i);
    } catch (NullPointerException e) {
      throw new Met(-63, i);
    } catch (ArrayStoreException e) {
      throw new Met(-64, i);
    } catch (ClassCastException e) {
      throw new Met(-65, i);
    } catch (ArithmeticException e) {
      throw new Met(-66, i);
    } catch (NegativeArraySizeException e) {
      throw new Met(-67, i);
    }
  }

  private void one(Op op) {
    int a = op.a;
    switch (op.kind) {
      case 0: link = at(boxes, a); break;
      case 1: link = at(cranes, a); break;
      case 2: link = laid(a); break;
      case 3: link = topOf((Bay) link, a); break;
      case 4: link = ((Crane) link).held(); break;
      case 5: link = below((Box) link); break;
      case 6: n = a; break;
      case 7: {
        Box box = (Box) link;
        n += a == 0 ? box.bears() : a == 1 ? box.tall() : a == 2 ? box.fee() : a == 3 ? ((Cold) box).watts() : box.known();
        break;
      }
      case 8: {
        Crane crane = (Crane) link;
        n += a == 0 ? crane.load() : a == 1 ? crane.stop() : crane.place;
        break;
      }
      case 9: n = n / ((Bay) link).all().size(); break;
      case 10:
        if (a == 3) shelves[a][op.b] = (Crane) link;
        else shelves[a][op.b] = (Box) link;
        break;
      case 11: link = shelves[a][op.b]; break;
      case 12: {
        Object[] was = shelves[a];
        shelves[a] = (Object[]) java.lang.reflect.Array.newInstance(was.getClass().getComponentType(), (byte) n);
        break;
      }
      default: {
        Class<?>[] kinds = {Plain.class, Cold.class, Tank.class, Open.class, High.class, Empty.class, Box.class, Crane.class};
        if (in(a, 0, 7)) kinds[a].cast(link);
        break;
      }
    }
  }

  private Box topOf(Bay bay, int s) {
    int height = bay.heights[s];
    Box[] all = bay.stack(s);
    return all.length == 0 || height == 0 ? null : all[all.length - 1];
  }

  private Box below(Box box) {
    return box.where == 1 && box.c > 0 ? bays[box.a].stack(box.b)[box.c - 1] : null;
  }

  long number() {
    return n;
  }

  int ran(int what) {
    if (!in(what, 0, 3)) return OUTSIDE;
    if (!ran) return NONE;
    int kind = link instanceof Box ? 0 : link instanceof Crane ? 1 : link instanceof Bay ? 2 : NONE;
    return new int[] {kind, numberOf(link), endedAt, began}[what];
  }

  private static int numberOf(Object thing) {
    if (thing instanceof Box b) return b.number;
    if (thing instanceof Crane c) return c.number;
    if (thing instanceof Bay b) return b.number;
    return NONE;
  }

  int shelf(int shelf, int place) {
    if (!in(shelf, 0, 3) || !in(place, 0, shelves[shelf].length - 1)) return UNKNOWN;
    return numberOf(shelves[shelf][place]);
  }

  // ---- 7 what is told

  int status() {
    return status;
  }

  int found(int finding) {
    return in(finding, 1, 7) ? found[finding] : UNKNOWN;
  }

  int trace(int i) {
    Integer m = at(marks, i);
    return m == null ? NONE : m;
  }

  private Copy copy(int number) {
    Copy copy = new Copy(number, new ArrayList<>(), new ArrayList<>(), new ArrayList<>());
    for (Box b : boxes) copy.boxes.add(new int[] {b.where, b.a, b.b, b.c, b.weighed ? 1 : 0});
    for (Crane c : cranes) copy.cranes.add(new int[] {c.place, c.lifts});
    for (Ship s : ships) copy.ships.add(new int[] {s.left, s.digs});
    return copy;
  }

  int undo() {
    if (journal.isEmpty()) return STATE;
    Copy copy = journal.remove(journal.size() - 1);
    for (int i = 0; i < copy.boxes.size(); i++) {
      int[] b = copy.boxes.get(i);
      boxes.get(i).stand(b[0], b[1], b[2], b[3]);
      boxes.get(i).weighed = b[4] == 1;
    }
    for (int i = 0; i < copy.cranes.size(); i++) {
      cranes.get(i).place = copy.cranes.get(i)[0];
      cranes.get(i).lifts = copy.cranes.get(i)[1];
    }
    for (int i = 0; i < copy.ships.size(); i++) {
      ships.get(i).left = copy.ships.get(i)[0];
      ships.get(i).digs = copy.ships.get(i)[1];
    }
    return copy.number;
  }

  long back(int n) {
    if (!in(n, 0, journal.size())) return -1;
    Copy copy = n == 0 ? copy(0) : journal.get(journal.size() - n);
    List<Integer> all = new ArrayList<>();
    for (Box b : boxes) {
      int[] was = b.number < copy.boxes.size() ? copy.boxes.get(b.number) : new int[5];
      for (int i = 0; i < 4; i++) all.add(was[i]);
      all.add(was[4] == 1 ? b.real : b.told);
    }
    for (Crane c : cranes) {
      int held = -1;
      for (int i = 0; i < copy.boxes.size(); i++) if (copy.boxes.get(i)[0] == 2 && copy.boxes.get(i)[1] == c.number) held = i;
      all.addAll(List.of(copy.cranes.get(c.number)[0], held, copy.cranes.get(c.number)[1]));
    }
    for (Ship s : ships) {
      int[] was = s.number < copy.ships.size() ? copy.ships.get(s.number) : new int[2];
      all.addAll(List.of(was[0], was[1]));
    }
    long h = 17;
    for (long it : all) {
      h = (h ^ it) * 0x9E3779B97F4A7C15L;
      h = h ^ (h >>> 29);
    }
    return h;
  }

  int count(int what) {
    if (!in(what, 0, 10)) return OUTSIDE;
    int wrong = 0;
    for (Box b : boxes) wrong += where(b.number, 6);
    return new int[] {boxes.size(), cranes.size(), ships.size(), journal.size(), lastNumber, wrong, tasks.size(), marks.size(), row.size(),
      wind, order.size()}[what];
  }

  int clear() {
    int before = boxes.size();
    begin();
    return before;
  }
}
