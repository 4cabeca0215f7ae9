import java.util.ArrayList;
import java.util.Arrays;
import java.util.List;

/** A WoodcutPress that keeps its calls: so it can be made anew, and no test asks for more than the 512 that are promised. */
final class Press {
  private static final int MOST_CALLS = 512;

  final WoodcutPress inside = new WoodcutPress();
  private final List<int[]> calls = new ArrayList<>();
  /** What Looks saw when there were as many calls as seenCalls. */
  private List<Integer> seen = null;
  private int seenCalls = -1;

  int callsLeft() {
    return MOST_CALLS - calls.size();
  }

  /** Another press on which the same calls were made. */
  Press again() {
    Press other = new Press();
    for (int[] one : calls) {
      other.call(one[0], Arrays.copyOfRange(one, 1, one.length));
    }
    return other;
  }

  void keepSeen(List<Integer> all) {
    seen = all;
    seenCalls = calls.size();
  }

  /** What was seen last, or null if there were calls since then. */
  List<Integer> stillSeen() {
    return seenCalls == calls.size() ? seen : null;
  }

  /** Calls the method with this number, in the order of the document's face. */
  int call(int method, int... a) {
    if (callsLeft() == 0) {
      throw new IllegalStateException("a test makes more than 512 calls on one press");
    }
    int[] one = new int[a.length + 1];
    one[0] = method;
    System.arraycopy(a, 0, one, 1, a.length);
    calls.add(one);
    return method <= 12 ? change(method, a) : look(method, a);
  }

  private int change(int method, int[] a) {
    switch (method) {
      case 0: return inside.paint(a[0], a[1], a[2], a[3], a[4]);
      case 1: return inside.cut(a[0]);
      case 2: return inside.carve(a[0], a[1], a[2], a[3]);
      case 3: return inside.plug(a[0], a[1]);
      case 4: return inside.setPins(a[0], a[1]);
      case 5: return inside.set(a[0], a[1]);
      case 6: return inside.print(a[0]);
      case 7: return inside.take(a[0]);
      case 8: return inside.restore(a[0]);
      case 9: return inside.undo();
      case 10: return inside.append(a[0]);
      case 11: return inside.clearText();
      default: return inside.load();
    }
  }

  private int look(int method, int[] a) {
    switch (method) {
      case 13: return inside.count(a[0]);
      case 14: return inside.cell(a[0], a[1], a[2]);
      case 15: return inside.printed(a[0], a[1], a[2], a[3]);
      case 16: return inside.proof(a[0], a[1]);
      case 17: return inside.faults(a[0], a[1], a[2]);
      case 18: return inside.why(a[0], a[1]);
      case 19: return inside.tolerance();
      case 20: return inside.trapFor(a[0]);
      case 21: return inside.bestPins(a[0]);
      default: return inside.printsLeft();
    }
  }

  int paint(int x, int y, int width, int height, int kind) {
    return call(0, x, y, width, height, kind);
  }

  int cut(int trap) {
    return call(1, trap);
  }

  int carve(int block, int x, int y, int is) {
    return call(2, block, x, y, is);
  }

  int plug(int x, int y) {
    return call(3, x, y);
  }

  int setPins(int px, int py) {
    return call(4, px, py);
  }

  int set(int what, int value) {
    return call(5, what, value);
  }

  int print(int prints) {
    return call(6, prints);
  }

  int take(int slot) {
    return call(7, slot);
  }

  int restore(int slot) {
    return call(8, slot);
  }

  int undo() {
    return call(9);
  }

  int append(int character) {
    return call(10, character);
  }

  int clearText() {
    return call(11);
  }

  int load() {
    return call(12);
  }

  int count(int what) {
    return call(13, what);
  }

  int cell(int x, int y, int what) {
    return call(14, x, y, what);
  }

  int printed(int x, int y, int sx, int sy) {
    return call(15, x, y, sx, sy);
  }

  int proof(int back, int what) {
    return call(16, back, what);
  }

  int faults(int sx, int sy, int what) {
    return call(17, sx, sy, what);
  }

  int why(int x, int y) {
    return call(18, x, y);
  }

  int tolerance() {
    return call(19);
  }

  int trapFor(int r) {
    return call(20, r);
  }

  int bestPins(int what) {
    return call(21, what);
  }

  int printsLeft() {
    return call(22);
  }
}
