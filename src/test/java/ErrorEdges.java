/** The boundary cases of errors in general: which one comes first, and that nothing changes. */
final class ErrorEdges {
  private final Edge edge;

  ErrorEdges(Edge edge) {
    this.edge = edge;
  }

  void check() {
    changesNothing();
    firstListed();
    noneComesLast();
    constants();
    calls();
    farArguments();
  }

  private void changesNothing() {
    edge.says("Errors", "A call that returns an error code changes nothing.");
    edge.refusedWhenBusy("paint", Checks.INVALID, press -> press.paint(0, 0, 16, 12, 3));
    edge.refusedWhenBusy("cut", Checks.INVALID, press -> press.cut(-1));
    edge.refusedWhenBusy("carve", Checks.INVALID, press -> press.carve(0, 3, 3, 2));
    edge.refusedWhenBusy("plug outside", Checks.INVALID, press -> press.plug(0, 12));
    edge.refusedWhenBusy("plug of a cell that is not worn", Checks.ILLEGAL, press -> press.plug(3, 3));
    edge.refusedWhenBusy("setPins, the second one wrong", Checks.INVALID, press -> press.setPins(0, 5));
    edge.refusedWhenBusy("set", Checks.INVALID, press -> press.set(3, 0));
    edge.refusedWhenBusy("print", Checks.INVALID, press -> press.print(101));
    edge.refusedWhenBusy("take", Checks.INVALID, press -> press.take(2));
    edge.refusedWhenBusy("restore", Checks.INVALID, press -> press.restore(-1));
    edge.refusedWhenBusy("append", Checks.INVALID, press -> press.append(256));
    edge.refusedWhenBusy("count", Checks.INVALID, press -> press.count(20));
    edge.refusedWhenBusy("cell", Checks.INVALID, press -> press.cell(0, 0, 5));
    edge.refusedWhenBusy("printed", Checks.INVALID, press -> press.printed(0, 0, 0, 9));
    edge.refusedWhenBusy("proof", Checks.INVALID, press -> press.proof(-1, 0));
    edge.refusedWhenBusy("proof, not so many", Checks.NONE, press -> press.proof(12, 0));
    edge.refusedWhenBusy("faults", Checks.INVALID, press -> press.faults(0, 0, 3));
    edge.refusedWhenBusy("why", Checks.INVALID, press -> press.why(0, 12));
    edge.refusedWhenBusy("tolerance", Checks.NONE, Press::tolerance);
    edge.refusedWhenBusy("trapFor", Checks.INVALID, press -> press.trapFor(5));
    edge.refusedWhenBusy("bestPins", Checks.INVALID, press -> press.bestPins(3));
  }

  private void firstListed() {
    edge.says("Errors", "If several error conditions apply, the method returns the one that its description lists first;");
    Press press = Checks.framed(1);
    edge.refused("plug, outside and not worn", press, Checks.INVALID, () -> press.plug(16, 0));
    edge.refused("plug, outside and not worn", press, Checks.INVALID, () -> press.plug(0, -1));
    edge.refused("restore, no slot and nothing taken", press, Checks.INVALID, () -> press.restore(2));
    Press text = new Press();
    for (int i = 0; i < 140; i++) {
      text.append(' ');
    }
    edge.refused("append, no character and no room", text, Checks.INVALID, () -> text.append(256));
    Press prints = new Press();
    for (int i = 0; i < 50; i++) {
      prints.print(100);
    }
    edge.refused("print, too many at once and in all", prints, Checks.INVALID, () -> prints.print(101));
    edge.refused("print, none at the limit", prints, Checks.INVALID, () -> prints.print(0));
    edge.refused("print, less than none at the limit", prints, Checks.INVALID, () -> prints.print(-1));
    edge.refused("print, one at the limit", prints, Checks.CAPACITY, () -> prints.print(1));
  }

  private void noneComesLast() {
    edge.says("Errors", "NONE is no error, and it is returned only if no error condition applies.");
    Press press = new Press();
    press.paint(0, 0, 16, 12, 1);
    edge.same("proof, no such part and none there", press.proof(0, 6), Checks.INVALID);
    edge.same("proof, no such part and none there", press.proof(12, -1), Checks.INVALID);
    edge.same("proof, back is negative and none there", press.proof(-1, 0), Checks.INVALID);
    edge.same("proof, none there", press.proof(0, 5), Checks.NONE);
    edge.same("trapFor, out of range and none there", press.trapFor(5), Checks.INVALID);
    edge.same("trapFor, none there", press.trapFor(4), Checks.NONE);
  }

  private void constants() {
    edge.says("Errors", "The constants: `INVALID_ARGUMENT = -1001`: An argument is out of range, or names something that does not exist.");
    edge.same("INVALID_ARGUMENT", WoodcutPress.INVALID_ARGUMENT, -1001);
    edge.says("Errors", "`ILLEGAL_STATE = -1002`: The call is not possible in the present state.");
    edge.same("ILLEGAL_STATE", WoodcutPress.ILLEGAL_STATE, -1002);
    edge.says("Errors", "`CAPACITY_EXCEEDED = -1003`: There is no room.");
    edge.same("CAPACITY_EXCEEDED", WoodcutPress.CAPACITY_EXCEEDED, -1003);
    edge.says("Errors", "`NONE = -1009`: There is no such value.");
    edge.same("NONE", WoodcutPress.NONE, -1009);
  }

  private void calls() {
    edge.says("What it is", "An object is used for at most 512 calls after it has been made;");
    Press press = new Press();
    for (int i = 1; i <= 508; i++) {
      press.paint(i % 16, i % 12, 1, 1, i % 3);
    }
    edge.same("call 509", press.paint(0, 0, 16, 12, 0) > 0 ? 1 : 0, 1);
    edge.same("call 510", press.paint(0, 0, 16, 12, 2), 192);
    edge.same("call 511", press.undo(), 4);
    edge.same("call 512", press.count(10), 192);
    edge.same("no call is left", press.callsLeft(), 0);
  }

  /** No argument makes the machine throw. */
  private void farArguments() {
    edge.says("Errors", "An argument is out of range");
    int[] far = {Integer.MIN_VALUE, Integer.MIN_VALUE + 1, -65536, -1000, 1000, 65536, Integer.MAX_VALUE - 1, Integer.MAX_VALUE};
    int[] arguments = {5, 1, 4, 2, 2, 2, 1, 1, 1, 0, 1, 0, 0, 1, 3, 4, 2, 3, 2, 0, 1, 1, 0};
    for (int method = 0; method < arguments.length; method++) {
      for (int i = 0; i < far.length && arguments[method] > 0; i++) {
        int[] all = new int[arguments[method]];
        for (int j = 0; j < all.length; j++) {
          all[j] = far[(i + j) % far.length];
        }
        edge.same("method " + method + ", arguments from " + far[i], Checks.busy().call(method, all), Checks.INVALID);
      }
    }
  }
}
