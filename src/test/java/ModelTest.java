import java.util.Arrays;

/** Runs of 512 mixed calls, on a press and on the model: all answers must be the same. */
public final class ModelTest {
  private static final int RUNS = 300;
  private static final int[] ARGUMENTS = {5, 1, 4, 2, 2, 2, 1, 1, 1, 0, 1, 0, 0, 1, 3, 4, 2, 3, 2, 0, 1, 1, 0};
  /** How often each method is called, in the order of the document's face. */
  private static final int[] SHARES = {14, 10, 10, 6, 6, 10, 10, 4, 5, 6, 4, 1, 4, 10, 12, 8, 6, 8, 10, 2, 2, 2, 2};
  private static final Checks CHECKS = new Checks("ModelTest");

  private long seed;
  private final Press press = new Press();
  private final PressModel model = new PressModel();

  private ModelTest(long seed) {
    this.seed = seed;
  }

  public static void main(String[] args) {
    for (int run = 1; run <= RUNS; run++) {
      new ModelTest(run * 7919L).run(run);
    }
    CHECKS.end();
  }

  private void run(int run) {
    // Every other run leaves calls for undo() at its end.
    int most = run % 2 == 0 ? 512 : 384;
    while (press.callsLeft() > 512 - most) {
      int method = pickMethod();
      if (method == 10) {
        String text = pickText();
        for (int i = 0; i < text.length() && press.callsLeft() > 513 - most; i++) {
          compare(run, 10, new int[] {text.charAt(i)});
        }
        compare(run, 12, new int[0]);
      } else {
        compare(run, method, pickArguments(method));
      }
    }
    for (int i = 0; i < 6 && most < 512; i++) {
      compareAll(run);
      compare(run, 9, new int[0]);
    }
  }

  /** A press and its model must be the same to the last cell. */
  private void compareAll(int run) {
    Press looked = press.again();
    for (int[] look : Looks.LOOKS) {
      if (looked.callsLeft() == 0) {
        looked = press.again();
      }
      compareOn(looked, run, look[0], Arrays.copyOfRange(look, 1, look.length));
    }
  }

  private void compare(int run, int method, int[] a) {
    compareOn(press, run, method, a);
  }

  private void compareOn(Press one, int run, int method, int[] a) {
    int due = model.call(method, a);
    int got = one.call(method, a);
    if (got == due) {
      CHECKS.same("", got, due);
    } else {
      int number = 512 - one.callsLeft();
      CHECKS.same("run " + run + ", call " + number + ", method " + method + Arrays.toString(a), got, due);
    }
  }

  /** The next of a chain of numbers that is the same each time, from 0 to most. */
  private int pick(int most) {
    seed = seed * 6364136223846793005L + 1442695040888963407L;
    return (int) ((seed >>> 33) % (most + 1));
  }

  private int pickFrom(int least, int greatest) {
    return least + pick(greatest - least);
  }

  private int pickMethod() {
    int point = pick(Arrays.stream(SHARES).sum() - 1);
    int method = 0;
    while (point >= SHARES[method]) {
      point -= SHARES[method];
      method++;
    }
    return method;
  }

  private int[] pickArguments(int method) {
    int[] a = goodArguments(method);
    if (a.length > 0 && pick(24) == 0) {
      int[] wrong = {-1, 5, 6, 12, 16, 20, 101, -9, Integer.MIN_VALUE, Integer.MAX_VALUE};
      a[pick(a.length - 1)] = wrong[pick(wrong.length - 1)];
    }
    return a;
  }

  private int[] goodArguments(int method) {
    int x = pick(15);
    int y = pick(11);
    switch (method) {
      case 0: return new int[] {x, y, pickFrom(1, Math.min(16 - x, 1 + pick(15))), pickFrom(1, Math.min(12 - y, 1 + pick(11))), pick(2)};
      case 1: return new int[] {pick(4)};
      case 2: return new int[] {pick(1), x, y, pick(1)};
      case 4: return new int[] {pickFrom(-4, 4), pickFrom(-4, 4)};
      case 5: return setting(pick(4));
      case 6: return new int[] {pick(3) == 0 ? pickFrom(1, 100) : pickFrom(1, 6)};
      case 7: case 8: return new int[] {pick(1)};
      case 13: return new int[] {pick(19)};
      case 14: return new int[] {x, y, pick(4)};
      case 15: return new int[] {x, y, pickFrom(-8, 8), pickFrom(-8, 8)};
      case 16: return new int[] {pick(12), pick(5)};
      case 17: return new int[] {pickFrom(-8, 8), pickFrom(-8, 8), pick(2)};
      case 20: return new int[] {pick(4)};
      case 21: return new int[] {pick(2)};
      default: return ARGUMENTS[method] == 2 ? new int[] {x, y} : new int[0];
    }
  }

  private int[] setting(int what) {
    switch (what) {
      case 0: return new int[] {0, pick(100)};
      case 3: return new int[] {3, pick(2) == 0 ? pickFrom(1, 1000) : pickFrom(1, 60)};
      case 4: return new int[] {4, pick(10)};
      default: return new int[] {what, pickFrom(-4, 4)};
    }
  }

  /** Some rows; every other time with a sign changed, put in or taken out. */
  private String pickText() {
    StringBuilder text = new StringBuilder();
    for (int rows = pick(3); rows > 0; rows--) {
      space(text).append(pick(11));
      space(text).append(':');
      for (int x = 0; x < 16;) {
        int cells = pickFrom(1, Math.min(16 - x, 10));
        space(text).append(cells);
        space(text).append("wcl".charAt(pick(2)));
        x += cells;
      }
      space(text).append(';');
    }
    String signs = "0123456789:;wcl x";
    int place = pick(text.length());
    switch (pick(5)) {
      case 0: text.insert(place, signs.charAt(pick(signs.length() - 1))); break;
      case 1: text.setLength(place); break;
      case 2: text.replace(place, Math.min(place + 1, text.length()), "" + signs.charAt(pick(signs.length() - 1))); break;
      default: break;
    }
    return text.toString();
  }

  private StringBuilder space(StringBuilder text) {
    return pick(9) == 0 ? text.append(' ') : text;
  }
}
