import java.lang.reflect.Method;
import java.util.ArrayList;
import java.util.HashMap;
import java.util.List;
import java.util.Map;
import java.util.Random;
import java.util.TreeMap;

/**
 * All promises by chance: runs of up to 512 calls, each answer beside that of the plain Model. A second BoxYard gets the
 * same calls but for those that were refused: "What is not done changes nothing but what 7 tells."
 */
public final class ModelTest {
  private static final int[] WILD = {Integer.MIN_VALUE, -100, -10, -9, -8, -1, 0, 1, 9, 10, 60, 61, 400, 401, Integer.MAX_VALUE};
  private static final String[] ASKED = {"body", "where", "where", "where", "stack", "stack", "share", "engine", "look", "look", "look", "sum", "sum",
    "mean", "stable", "broke", "row", "holds", "number", "ran", "shelf", "status", "found", "back", "back", "count", "count", "trace"};
  private static final String[][] PROFILES = {
    {"box", "plugs", "apart", "wind", "may", "may", "act", "act", "act", "act", "act", "act", "act", "act", "act", "act", "undo", "bay"},
    {"box", "ship", "limit", "route", "plan", "plan", "plan", "stable", "broke", "mean", "act", "act", "act", "act", "act", "act", "act", "undo"},
    {"box", "want", "want", "want", "forget", "least", "least", "row", "row", "alter", "holds", "holds", "act", "act", "act", "act", "undo"},
    {"box", "task", "op", "op", "op", "op", "op", "run", "run", "run", "number", "ran", "ran", "shelf", "shelf", "act", "act", "clear"},
    {"box", "bay", "plugs", "apart", "rail", "crane", "wind", "may", "act", "act", "act", "act", "act", "ship", "limit", "route", "plan", "want",
      "forget", "least", "alter", "task", "op", "op", "run", "undo", "clear"},
    {"rail", "crane", "crane", "wind", "go", "go", "go", "go", "undo", "bay", "ship", "box", "clear"}};

  private static final Map<String, Method[]> CALLS = new HashMap<>();
  private static final Map<String, Map<Long, Integer>> ANSWERED = new TreeMap<>();

  private final BoxYard x = new BoxYard();
  private final BoxYard spared = new BoxYard();
  private final Model due = new Model();
  private final Random chance;
  private final int profile;
  private final List<String> run = new ArrayList<>();

  private ModelTest(long seed) {
    chance = new Random(seed);
    profile = (int) (seed % PROFILES.length);
  }

  public static void main(String[] args) throws Exception {
    for (Method m : BoxYard.class.getDeclaredMethods()) {
      if (!java.lang.reflect.Modifier.isPublic(m.getModifiers())) continue;
      CALLS.put(m.getName(), new Method[] {m, Model.class.getDeclaredMethod(m.getName(), m.getParameterTypes())});
    }
    for (long seed = 0; seed < 2400; seed++) new ModelTest(seed).work();
    answers();
    Check.end();
  }

  /** Whether the runs came to every kind of answer: a test that never sees a RULE says nothing of it. */
  private static void answers() {
    Map<String, long[]> met = new HashMap<>();
    met.put("go", new long[] {-1, -2, -46, -47});
    met.put("take", new long[] {-1, -3, -46, -49, -50});
    met.put("lift", new long[] {-1, -3, -46, -48, -49, -61, -62, -63});
    met.put("set", new long[] {-1, -3, -41, -42, -43, -44, -46, -48, -61, -62, -64});
    met.put("drop", new long[] {-1, -3, -46, -50});
    met.put("load", new long[] {-1, -3, -46, -51, -52, -53, -62, -63, -65});
    met.put("fetch", new long[] {-1, -3, -46, -51, -62, -63, -65});
    met.put("serve", new long[] {-1, -3});
    met.put("run", new long[] {1, -1, -62, -63, -64, -65, -66, -67});
    met.put("least", new long[] {-1, -2, -3, -9, 0, 1, 2, 3, 4, 5});
    met.put("broke", new long[] {-2, -9, -52, -53, -62});
    met.put("crane", new long[] {-1, -2, -4, -47});
    met.put("rail", new long[] {-1, -2, -47});
    for (String call : met.keySet()) {
      for (long answer : met.get(call)) Check.that(call + " answered " + answer, ANSWERED.get(call).containsKey(answer));
    }
  }

  private void work() throws Exception {
    lay();
    String[] told = PROFILES[profile];
    while (run.size() < 480) {
      String name = chance.nextInt(4) == 0 ? ASKED[chance.nextInt(ASKED.length)] : told[chance.nextInt(told.length)];
      if (name.equals("clear") && chance.nextInt(20) > 0) continue;
      if (name.equals("act")) name = act();
      call(name, arguments(name));
      if (chance.nextInt(6) == 0) marks();
    }
    for (int n = 0; n <= 3; n++) call("back", n * 20);
    for (int f = 1; f <= 7; f++) call("found", f);
    for (int what = 0; what <= 10; what++) call("count", what);
  }

  private void marks() throws Exception {
    if (run.size() > 440) return;
    call("count", 7);
    for (int i = 0; i <= due.count(7) && i < 30; i++) call("trace", i);
  }

  private void call(String name, int... args) throws Exception {
    Object[] boxed = new Object[args.length];
    for (int i = 0; i < args.length; i++) boxed[i] = args[i];
    run.add(name + java.util.Arrays.toString(args));
    long got = ((Number) CALLS.get(name)[0].invoke(x, boxed)).longValue();
    long want = ((Number) CALLS.get(name)[1].invoke(due, boxed)).longValue();
    if (!name.equals("back")) ANSWERED.computeIfAbsent(name, n -> new TreeMap<>()).merge(got, 1, Integer::sum);
    if (got != want) Check.due("profile " + profile + ", call " + run.size() + ": " + run, got, want);
    if (isRefused(name, got)) return;
    long without = ((Number) CALLS.get(name)[0].invoke(spared, boxed)).longValue();
    if (got != without && !isToldBySeven(name, args)) Check.due("without what was refused, call " + run.size() + ": " + run, without, got);
  }

  /** A run that ended by a FINDING and a search that found no way were done. */
  private static boolean isRefused(String name, long answer) {
    if (name.equals("least") && answer == -9) return false;
    return !name.equals("back") && !name.equals("number") && answer < 0 && !(name.equals("run") && answer <= -60);
  }

  /** STATUS, THE TRACE, what was found; and FAILS, which 5 tells. */
  private static boolean isToldBySeven(String name, int[] args) {
    if (name.equals("look")) return args[1] == 3;
    if (name.equals("count")) return args[0] == 7;
    return name.equals("status") || name.equals("trace") || name.equals("found");
  }

  /** What each profile begins with. */
  private void lay() throws Exception {
    if (profile == 5) return;
    int[] heights = {3333, 55, 243, 5, 122, 333333, 25, 11, 4};
    if (profile == 2) {
      call("bay", 0, 0, new int[] {222, 333, 32, 33, 3, 1222}[chance.nextInt(6)]);
    } else {
      for (int b = 0; b < 2; b++) call("bay", b, chance.nextInt(3) == 0 ? chance.nextInt(4) : 0, heights[chance.nextInt(heights.length)]);
      for (int s = 0; s < 2; s++) call("plugs", chance.nextInt(2), s, chance.nextInt(3));
    }
    int cranes = 1 + chance.nextInt(4);
    for (int c = 0; c < cranes; c++) {
      int kind = profile == 1 ? new int[] {1, 1, 1, 0, 3}[chance.nextInt(5)] : profile == 2 ? 0 : chance.nextInt(5);
      call("crane", kind, kind <= 2 ? c % 3 : -9, 0);
    }
    int boxes = 2 + chance.nextInt(6);
    for (int b = 0; b < boxes; b++) call("box", profile == 2 ? new int[] {0, 1 + b, 1 + b, 0, 0} : arguments("box"));
    if (profile == 1) {
      call("ship", 1 + chance.nextInt(3), 1 + chance.nextInt(2), 1 + chance.nextInt(3), 0);
      for (int i = 0; i < 3; i++) call("route", 0, chance.nextInt(8));
    }
  }

  /** An ACT that may well be done: of a CRANE that has a BOX, or of one that has none. */
  private String act() {
    boolean held = due.look(crane(), 1) >= 0;
    String[] with = {"set", "set", "set", "drop", "load", "go", "set"};
    String[] without = {"take", "take", "lift", "fetch", "go", "lift", "serve"};
    if (profile == 1) with = new String[] {"load", "load", "load", "drop", "load", "go", "set"};
    if (profile == 1) without = new String[] {"take", "take", "fetch", "fetch", "go", "lift", "serve"};
    return (held ? with : without)[chance.nextInt(7)];
  }

  private int last = 0;

  private int crane() {
    last = number(due.count(1));
    return last;
  }

  /** The number of one thing of so many; now and then of none. */
  private int number(int count) {
    int r = chance.nextInt(60);
    if (r == 0) return WILD[chance.nextInt(WILD.length)];
    if (r == 1) return count;
    return count == 0 ? 0 : chance.nextInt(count);
  }

  private int within(int least, int most) {
    int r = chance.nextInt(60);
    if (r == 0) return WILD[chance.nextInt(WILD.length)];
    if (r == 1) return least - 1;
    if (r == 2) return most + 1;
    return least + chance.nextInt(most - least + 1);
  }

  private int place() {
    return chance.nextInt(4) > 0 ? 0 : chance.nextInt(3) > 0 ? 1 : within(0, 9);
  }

  private int weight() {
    return chance.nextInt(3) == 0 ? within(1, 400) : within(1, 130);
  }

  private int actor() {
    return chance.nextInt(10) == 0 ? number(due.count(1)) : last;
  }

  /** A BOX that a CRANE can take hold of, as a rule. */
  private int gated() {
    List<Integer> all = new ArrayList<>();
    for (int b = 0; b < due.count(0); b++) if (due.where(b, 0) == 0) all.add(b);
    return all.isEmpty() || chance.nextInt(12) == 0 ? number(due.count(0)) : all.get(chance.nextInt(all.size()));
  }

  /** A BOX of BAY 0, as a rule. */
  private int stacked() {
    List<Integer> all = new ArrayList<>();
    for (int b = 0; b < due.count(0); b++) if (due.where(b, 0) == 1 && due.where(b, 1) == 0) all.add(b);
    return all.isEmpty() || chance.nextInt(12) == 0 ? number(due.count(0)) : all.get(chance.nextInt(all.size()));
  }

  /** A STACK of the BAY where a CRANE is that has a BOX, as a rule. */
  private int filled(int crane) {
    List<Integer> all = new ArrayList<>();
    for (int s = 0; s < 6; s++) if (due.stack(due.look(crane, 0), s, 0) >= 0) all.add(s);
    return all.isEmpty() || chance.nextInt(8) == 0 ? number(4) : all.get(chance.nextInt(all.size()));
  }

  /** Where a SHIP has a BOX, as a rule. */
  private int[] loaded(int crane) {
    List<int[]> all = new ArrayList<>();
    for (int b = 0; b < due.count(0); b++) {
      if (due.where(b, 0) == 3) all.add(new int[] {crane, due.where(b, 1), chance.nextInt(3), chance.nextInt(2)});
    }
    int[] any = {crane, number(due.count(2)), number(3), number(2)};
    return all.isEmpty() || chance.nextInt(8) == 0 ? any : all.get(chance.nextInt(all.size()));
  }

  private int heights() {
    if (chance.nextInt(10) == 0) return WILD[chance.nextInt(WILD.length)];
    int digits = 0;
    for (int i = 1 + chance.nextInt(6); i > 0; i--) digits = digits * 10 + (chance.nextInt(60) == 0 ? chance.nextInt(10) : 1 + chance.nextInt(5));
    return digits;
  }

  private int[] arguments(String name) {
    int cranes = due.count(1);
    int boxes = due.count(0);
    int ships = due.count(2);
    switch (name) {
      case "box": {
        int told = weight();
        return new int[] {within(0, 5), told, chance.nextBoolean() ? told : weight(), within(0, 4), within(0, 7)};
      }
      case "body": return new int[] {number(boxes), within(0, 3)};
      case "where": return new int[] {number(boxes), within(0, 9)};
      case "bay": return new int[] {within(0, 9), within(0, 3), heights()};
      case "plugs": return new int[] {place(), number(4), within(0, 3)};
      case "apart": return new int[] {within(1, 4), within(1, 4), chance.nextInt(3) == 0 ? within(0, 6) : within(0, 1)};
      case "stack": return new int[] {place(), number(4), number(4)};
      case "share": return new int[] {place()};
      case "rail": return new int[] {within(0, 2), within(1, 4)};
      case "crane": {
        int kind = within(0, 4);
        boolean odd = chance.nextInt(20) == 0;
        return new int[] {kind, (kind <= 2) != odd ? within(0, 2) : -9, within(0, 9)};
      }
      case "wind": return new int[] {chance.nextInt(8) == 0 ? within(0, 60) : chance.nextInt(6) == 0 ? within(19, 27) : 0};
      case "engine": return new int[] {number(cranes), within(0, 2)};
      case "look": return new int[] {number(cranes), within(0, 5)};
      case "may": return new int[] {actor(), number(4)};
      case "go": return new int[] {profile == 5 ? crane() : actor(), profile == 5 ? within(0, 9) : place()};
      case "take": return new int[] {actor(), gated()};
      case "lift": {
        int crane = actor();
        return new int[] {crane, filled(crane)};
      }
      case "set": return new int[] {actor(), number(3)};
      case "drop":
      case "load": return new int[] {actor()};
      case "fetch": return loaded(actor());
      case "serve":
      case "mean":
      case "stable": return new int[] {number(ships)};
      case "ship": return new int[] {within(1, 6), within(1, 3), within(1, 3), chance.nextInt(3) > 0 ? 0 : within(0, 9)};
      case "limit": return new int[] {number(ships), within(0, 2), chance.nextInt(4) == 0 ? within(0, 1000000) : chance.nextInt(400)};
      case "route": return new int[] {number(ships), within(0, 7)};
      case "plan": {
        int ship = chance.nextInt(12) == 0 ? -9 : number(ships);
        boolean any = chance.nextInt(12) == 0;
        int z = any ? within(-9, 9) : chance.nextInt(chance.nextInt(2) + 1);
        return new int[] {held(number(boxes)), ship, any ? within(-9, 9) : chance.nextInt(2), any ? within(-9, 9) : chance.nextInt(2), z};
      }
      case "sum": return new int[] {number(ships), within(0, 6)};
      case "broke": return new int[] {within(0, 2)};
      case "want": return new int[] {stacked()};
      case "least": return new int[] {profile == 2 && chance.nextInt(8) > 0 ? 0 : place()};
      case "row": return new int[] {number(due.count(8)), within(0, 1)};
      case "alter": return new int[] {number(due.count(8)), number(3), chance.nextInt(3) == 0 ? -9 : number(3)};
      case "op": return operation();
      case "run": return new int[] {number(due.count(6))};
      case "ran": return new int[] {within(0, 3)};
      case "shelf": return new int[] {within(0, 3), chance.nextInt(5) == 0 ? within(0, 127) : within(0, 2)};
      case "found": return new int[] {within(1, 7)};
      case "trace": return new int[] {number(12)};
      case "back": return new int[] {chance.nextInt(3) == 0 ? number(61) : number(1 + due.count(3))};
      case "count": return new int[] {within(0, 10)};
      default: return new int[0];
    }
  }

  /** A BOX at a CRANE now and then, else this one. */
  private int held(int box) {
    int at = due.look(last, 1);
    return at >= 0 && chance.nextInt(2) == 0 ? at : box;
  }

  private int lastKind = 0;

  /** A kind of OP that can go on behind another one, as a rule. */
  private int behind(int kind) {
    int[] box = {5, 7, 7, 10, 10, 13, 6, 14, 15};
    int[] crane = {4, 8, 10, 13, 15, 14};
    int[] bay = {3, 3, 9, 13, 14};
    if (chance.nextInt(4) == 0) return within(0, 15);
    if (kind == 0 || kind == 3 || kind == 4 || kind == 5 || kind == 7 || kind == 11) return box[chance.nextInt(box.length)];
    if (kind == 1 || kind == 8) return crane[chance.nextInt(crane.length)];
    if (kind == 2 || kind == 9) return bay[chance.nextInt(bay.length)];
    return kind == 6 ? new int[] {12, 9, 0, 2}[chance.nextInt(4)] : chance.nextInt(4) == 0 ? 11 : chance.nextInt(3);
  }

  private int[] operation() {
    int kind = behind(lastKind);
    lastKind = kind;
    int a = within(0, 3);
    int b = within(0, 2);
    if (kind == 0) a = number(due.count(0));
    if (kind == 1) a = number(due.count(1));
    if (kind == 2) a = chance.nextInt(6) == 0 ? within(0, 9) : chance.nextInt(2);
    if (kind == 6) a = chance.nextInt(3) == 0 ? chance.nextInt() : within(-3, 5);
    if (kind == 7) a = within(0, 4);
    if (kind == 13) a = within(-1, 8);
    if (kind == 14) a = chance.nextInt(8) == 0 ? WILD[chance.nextInt(WILD.length)] : within(0, 4);
    if (kind == 14) b = chance.nextInt(2) == 0 ? 0 : within(1, 7);
    if (kind == 15) a = chance.nextInt(8) == 0 ? WILD[chance.nextInt(WILD.length)] : within(0, 3);
    if (kind == 15) b = chance.nextInt(8) == 0 ? WILD[chance.nextInt(WILD.length)] : within(0, 3);
    // One TASK behind the other, so that its OPS follow one another as told.
    return new int[] {chance.nextInt(30) == 0 ? number(due.count(6)) : due.count(6) - 1, kind, a, b};
  }
}
