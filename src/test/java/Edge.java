import java.util.function.IntSupplier;
import java.util.function.ToIntFunction;

/** Checks that stand beside the words of the document which name a boundary case. */
final class Edge {
  /** A call with one argument that is tried. */
  interface Call {
    int on(Press press, int argument);
  }

  private final Checks checks;
  private final Sentences document;
  private String place = "";

  Edge(Checks checks, Sentences document) {
    this.checks = checks;
    this.document = document;
  }

  /** The checks that follow are about these words of this section. */
  void says(String section, String words) {
    place = section + ", \"" + words + "\": ";
    checks.holds(place + "these words stand there", document.take(section, words));
  }

  void same(String what, long got, long due) {
    checks.same(place + what, got, due);
  }

  void holds(String what, boolean is) {
    checks.holds(place + what, is);
  }

  void refused(String what, Press press, int code, IntSupplier call) {
    checks.refused(place + what, press, code, call);
  }

  /** A refused call on a press amid its work, with a full history. */
  void refusedWhenBusy(String what, int code, ToIntFunction<Press> call) {
    Press press = Checks.busy();
    refused(what, press, code, () -> call.applyAsInt(press));
  }

  /** All from the least to the greatest are taken, each by a press of its own; the next ones and far ones are refused. */
  void range(int least, int greatest, Call call) {
    for (int argument = least; argument <= greatest; argument++) {
      int answer = call.on(Checks.busy(), argument);
      holds(argument + " is taken, not " + answer, answer != Checks.INVALID);
    }
    refuses(new int[] {least - 1, greatest + 1, Integer.MIN_VALUE, Integer.MAX_VALUE}, call);
  }

  /** Each of these arguments is out of range. */
  void refuses(int[] arguments, Call call) {
    Press press = Checks.busy();
    for (int argument : arguments) {
      refused(argument + " is refused", press, Checks.INVALID, () -> call.on(press, argument));
    }
  }
}
