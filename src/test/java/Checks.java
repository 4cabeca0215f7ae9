import java.util.List;
import java.util.function.IntSupplier;
import java.util.function.IntUnaryOperator;

/** What the tests share: comparing answers, refused calls, and presses to begin with. */
final class Checks {
  static final int INVALID = -1001;
  static final int ILLEGAL = -1002;
  static final int CAPACITY = -1003;
  static final int NONE = -1009;

  private final String title;
  private int right = 0;
  private int wrong = 0;

  Checks(String title) {
    this.title = title;
  }

  void same(String what, long got, long due) {
    if (got == due) {
      right++;
    } else {
      wrong++;
      System.out.println(title + ": " + what + " answered " + got + ", due is " + due);
    }
  }

  void holds(String what, boolean is) {
    same(what, is ? 1 : 0, 1);
  }

  /** The call answers the code and changes nothing, neither in the text nor in the history. */
  void refused(String what, Press press, int code, IntSupplier call) {
    List<Integer> before = Looks.whole(press);
    same(what, call.getAsInt(), code);
    holds(what + " changes nothing", before.equals(Looks.whole(press)));
  }

  /** Like refused, for each of the values that one argument may not have. */
  void invalid(String what, Press press, int[] values, IntUnaryOperator call) {
    for (int value : values) {
      refused(what + " with " + value, press, INVALID, () -> call.applyAsInt(value));
    }
  }

  /** Ends the program with 1 if an answer was wrong. */
  void end() {
    System.out.println(title + ": " + right + " answers right, " + wrong + " wrong");
    if (wrong != 0 || right == 0) {
      System.exit(1);
    }
  }

  static void write(Press press, String text) {
    for (int i = 0; i < text.length(); i++) {
      press.append(text.charAt(i));
    }
  }

  /** Loads a text in place of the one that is there. */
  static int load(Press press, String text) {
    press.clearText();
    write(press, text);
    return press.load();
  }

  /** What a new press answers that loads a text. */
  static int loadAnew(String text) {
    Press press = new Press();
    write(press, text);
    return press.load();
  }

  /** A press with a framed colour area, cut with a trap. */
  static Press framed(int trap) {
    Press press = new Press();
    press.paint(3, 3, 6, 5, 2);
    press.paint(4, 4, 4, 3, 1);
    press.cut(trap);
    return press;
  }

  /** A press amid its work: wear, a worn cell (0, 11), a full log, both snapshots, a full history, and a text. */
  static Press busy() {
    Press press = framed(1);
    press.carve(0, 0, 11, 1);
    press.take(0);
    press.print(13);
    press.paint(10, 9, 2, 1, 1);
    press.take(1);
    press.setPins(1, -1);
    press.set(2, 3);
    write(press, "2:16c;");
    return press;
  }
}
