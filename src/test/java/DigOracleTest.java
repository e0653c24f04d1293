import java.util.ArrayDeque;
import java.util.ArrayList;
import java.util.HashSet;
import java.util.List;
import java.util.Random;
import java.util.Set;

/** Promises 34, 35, 37: least() and its row against a plain search over every BOX by name, on bays by chance. */
public final class DigOracleTest {
  private record Spot(List<String> stacks, int out, List<int[]> row) {
  }

  public static void main(String[] args) {
    Random chance = new Random(20261116);
    int none = 0;
    for (int i = 0; i < 3000; i++) none += one(chance, i);
    Check.that("some bays have no way: " + none, none > 10);
    widest();
    Check.end();
  }

  /** Bays whose searches go through the most states, with a way and with none. */
  private static void widest() {
    int found = beside("wide", new int[] {4, 4, 3, 2}, List.of(List.of(0, 1, 2, 4), List.of(5), List.of(3), List.of()), List.of(0, 3, 5, 4, 2));
    found += beside("wide", new int[] {4, 3, 1, 4}, List.of(List.of(0, 1, 2, 3), List.of(4), List.of(), List.of(5)), List.of(0, 5, 4, 3, 2));
    Check.due("ways that are none", found, 0);
    found = beside("no way", new int[] {1, 1, 5, 2}, List.of(List.of(5), List.of(0), List.of(3, 4), List.of(1, 2)), List.of(3, 0, 4, 1, 5));
    found += beside("no way", new int[] {2, 5, 2}, List.of(List.of(0), List.of(1, 4, 5), List.of(2, 3)), List.of(1, 0, 2, 5, 3));
    Check.due("ways that are none", found, 2);
  }

  private static int one(Random chance, int run) {
    // Two high STACKS with all six BOXES have the longest rows.
    boolean longest = chance.nextInt(5) == 0;
    int stacks = longest ? 2 : 1 + chance.nextInt(4);
    boolean tight = chance.nextInt(3) > 0;
    int[] heights = new int[stacks];
    int room = 0;
    for (int s = stacks - 1; s >= 0; s--) {
      heights[s] = longest ? 4 + chance.nextInt(2) : 1 + chance.nextInt(tight ? 3 : 5);
      room += heights[s];
    }
    int boxes = longest ? 6 : Math.min(room, 1 + chance.nextInt(6));
    List<List<Integer>> where = new ArrayList<>();
    for (int s = 0; s < stacks; s++) where.add(new ArrayList<>());
    for (int b = 0; b < boxes; b++) {
      int s = chance.nextInt(stacks);
      while (where.get(s).size() >= heights[s]) s = (s + 1) % stacks;
      where.get(s).add(b);
    }
    List<Integer> all = new ArrayList<>();
    for (int b = 0; b < boxes; b++) all.add(b);
    java.util.Collections.shuffle(all, chance);
    int wanted = longest ? 5 : Math.min(boxes, 1 + chance.nextInt(5));
    return beside("run " + run, heights, where, all.subList(0, wanted));
  }

  /** least() and its row beside the plain search: 1 if there is no way. */
  private static int beside(String run, int[] heights, List<List<Integer>> where, List<Integer> order) {
    BoxYard x = new BoxYard();
    int digits = 0;
    for (int s = heights.length - 1; s >= 0; s--) digits = digits * 10 + heights[s];
    x.bay(0, 0, digits);
    x.crane(0, 0, 0);
    for (List<Integer> stack : where) for (int b : stack) x.box(0, 1, 1, 0, 0);
    for (int s = 0; s < heights.length; s++) {
      for (int b : where.get(s)) {
        x.take(0, b);
        Check.that(run + ": the box was set", x.set(0, s) > 0);
      }
    }
    for (int b : order) x.want(b);
    List<int[]> due = search(where, heights, order);
    String told = run + " " + where + " heights " + digits + " order " + order;
    int least = x.least(0);
    Check.due(told + " least", least, due == null ? -9 : due.size());
    Check.due(told + " count(8)", x.count(8), due == null ? 0 : due.size());
    if (due == null || least != due.size()) return due == null ? 1 : 0;
    for (int i = 0; i < least; i++) {
      Check.due(told + " row(" + i + ", 0)", x.row(i, 0), due.get(i)[0]);
      Check.due(told + " row(" + i + ", 1)", x.row(i, 1), due.get(i)[1]);
    }
    Check.due(told + " holds", x.holds(), 1);
    return 0;
  }

  private static List<int[]> search(List<List<Integer>> where, int[] heights, List<Integer> order) {
    List<String> first = new ArrayList<>();
    for (List<Integer> stack : where) {
      StringBuilder text = new StringBuilder();
      for (int b : stack) text.append((char) ('a' + b));
      first.add(text.toString());
    }
    ArrayDeque<Spot> open = new ArrayDeque<>();
    Set<List<String>> seen = new HashSet<>();
    open.add(new Spot(first, 0, new ArrayList<>()));
    seen.add(first);
    while (!open.isEmpty()) {
      Spot spot = open.poll();
      if (spot.out == order.size()) return spot.row;
      for (int from = 0; from < heights.length; from++) {
        String stack = spot.stacks.get(from);
        if (stack.isEmpty()) continue;
        char top = stack.charAt(stack.length() - 1);
        for (int to = -1; to < heights.length; to++) {
          if (to == from) continue;
          boolean out = to < 0;
          if (out ? top != 'a' + order.get(spot.out) : spot.stacks.get(to).length() >= heights[to]) continue;
          List<String> next = new ArrayList<>(spot.stacks);
          next.set(from, stack.substring(0, stack.length() - 1));
          if (!out) next.set(to, next.get(to) + top);
          if (!seen.add(next)) continue;
          List<int[]> row = new ArrayList<>(spot.row);
          row.add(new int[] {from, out ? -9 : to});
          open.add(new Spot(next, spot.out + (out ? 1 : 0), row));
        }
      }
    }
    return null;
  }
}
