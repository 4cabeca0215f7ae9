import java.util.ArrayList;
import java.util.List;

/** Looks at all that a press tells, by presses that are made anew, so that a look is no call of the press itself. */
final class Looks {
  /** Method and arguments of each look. */
  static final int[][] LOOKS = looks();

  private Looks() {
  }

  private static int[][] looks() {
    List<int[]> all = new ArrayList<>();
    for (int what = 0; what <= 19; what++) {
      all.add(new int[] {13, what});
    }
    for (int i = 0; i < 192 * 5; i++) {
      all.add(new int[] {14, i % 16, i / 16 % 12, i / 192});
    }
    for (int i = 0; i < 13 * 6; i++) {
      all.add(new int[] {16, i / 6, i % 6});
    }
    for (int what = 0; what <= 2; what++) {
      all.add(new int[] {21, what});
    }
    all.add(new int[] {19});
    all.add(new int[] {22});
    return all.toArray(new int[0][]);
  }

  /** What count, cell, proof, bestPins, tolerance and printsLeft tell; the first 20 are count's. */
  static List<Integer> seen(Press press) {
    if (press.callsLeft() == 0) {
      throw new IllegalStateException("a press without a call left can't be looked at");
    }
    List<Integer> all = new ArrayList<>();
    Press one = press.again();
    for (int[] look : LOOKS) {
      if (one.callsLeft() == 0) {
        one = press.again();
      }
      all.add(one.call(look[0], java.util.Arrays.copyOfRange(look, 1, look.length)));
    }
    return all;
  }

  /** Like seen, without the states in the history and the length of the text, which undo() leaves. */
  static List<Integer> seenState(Press press) {
    List<Integer> all = seen(press);
    all.remove(19);
    all.remove(18);
    return all;
  }

  /** What the cells are in picture and blocks, and their wear, without what depends on the hardness. */
  static List<Integer> cells(Press press) {
    return new ArrayList<>(seen(press).subList(20, 20 + 192 * 4));
  }

  /** All that there is: also what the snapshots and the text hold, and each state of the history with its snapshots. */
  static List<Integer> whole(Press press) {
    List<Integer> all = press.stillSeen();
    if (all != null) {
      return all;
    }
    all = new ArrayList<>();
    Press loaded = press.again();
    all.add(loaded.load());
    all.addAll(seen(loaded));
    Press undone = press.again();
    int left = 6;
    while (left >= 0) {
      all.addAll(seen(undone));
      for (int slot = 0; slot <= 1; slot++) {
        Press restored = undone.again();
        all.add(restored.restore(slot));
        all.addAll(cells(restored));
      }
      left = undone.undo();
      all.add(left);
    }
    press.keepSeen(all);
    return all;
  }
}
