import java.util.ArrayList;
import java.util.List;
import java.util.function.IntSupplier;

/** What the tests share: comparing answers, looking at all that a press tells, and small helpers. */
final class Checks {
  static final int INVALID = -1001;
  static final int ILLEGAL = -1002;
  static final int CAPACITY = -1003;
  static final int NONE = -1009;

  private final String title;
  private int right = 0;
  private int wrong = 0;

  Checks(String title) {
    this.title = title;
  }

  void same(String what, long got, long due) {
    if (got == due) {
      right++;
    } else {
      wrong++;
      System.out.println(title + ": " + what + " answered " + got + ", due is " + due);
    }
  }

  void holds(String what, boolean is) {
    same(what, is ? 1 : 0, 1);
  }

  /** The call answers the code, and all that the press tells stays. */
  void refused(String what, WoodcutPress press, int code, IntSupplier call) {
    List<Integer> before = seen(press);
    same(what, call.getAsInt(), code);
    holds(what + " changes nothing", before.equals(seen(press)));
  }

  /** Like refused, for each of the values that one argument may not have. */
  void invalid(String what, WoodcutPress press, int[] values, java.util.function.IntUnaryOperator call) {
    for (int value : values) {
      refused(what + " with " + value, press, INVALID, () -> call.applyAsInt(value));
    }
  }

  /** Ends the program with 1 if an answer was wrong. */
  void end() {
    System.out.println(title + ": " + right + " answers right, " + wrong + " wrong");
    if (wrong != 0 || right == 0) {
      System.exit(1);
    }
  }

  /** All that the calls that look tell of a press. */
  static List<Integer> seen(WoodcutPress press) {
    List<Integer> all = new ArrayList<>();
    for (int what = 0; what <= 19; what++) {
      all.add(press.count(what));
    }
    for (int y = 0; y < 12; y++) {
      for (int x = 0; x < 16; x++) {
        for (int what = 0; what <= 4; what++) {
          all.add(press.cell(x, y, what));
        }
      }
    }
    for (int back = 0; back <= 12; back++) {
      for (int what = 0; what <= 5; what++) {
        all.add(press.proof(back, what));
      }
    }
    return all;
  }

  /** Like seen, without the states in the history and the length of the text, which undo() leaves. */
  static List<Integer> seenState(WoodcutPress press) {
    List<Integer> all = seen(press);
    all.remove(19);
    all.remove(18);
    return all;
  }

  static void write(WoodcutPress press, String text) {
    for (int i = 0; i < text.length(); i++) {
      press.append(text.charAt(i));
    }
  }

  /** Loads a text in place of the one that is there. */
  static int load(WoodcutPress press, String text) {
    press.clearText();
    write(press, text);
    return press.load();
  }

  /** A press with a framed colour area, cut with a trap. */
  static WoodcutPress framed(int trap) {
    WoodcutPress press = new WoodcutPress();
    press.paint(3, 3, 6, 5, 2);
    press.paint(4, 4, 4, 3, 1);
    press.cut(trap);
    return press;
  }
}
