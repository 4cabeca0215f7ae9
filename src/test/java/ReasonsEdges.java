/** The boundary cases of promises 19 to 24. */
final class ReasonsEdges {
  private final Edge edge;

  ReasonsEdges(Edge edge) {
    this.edge = edge;
  }

  void check() {
    faultsArguments();
    faultsAnswers();
    faultsWithLineBlockAsItIs();
    whyArguments();
    whyAnswers();
    whyWithRegisterAsItIs();
    toleranceAnswers();
    toleranceOfEveryShift();
    toleranceNone();
    trapForArguments();
    trapForAnswers();
    trapForBlocksCutAnew();
    bestPinsArguments();
    bestPinsEnds();
    bestPinsOfSeveral();
    bestPinsAllElseAsItIs();
    printsLeftLeast();
    printsLeftGreatest();
    printsLeftNone();
    printsLeftWithoutLimit();
    changesNothing();
  }

  private static Press filled(int kind) {
    Press press = new Press();
    press.paint(0, 0, 16, 12, kind);
    return press;
  }

  private void faultsArguments() {
    edge.says("Promise 19", "`sx`: -8 to 8");
    edge.range(-8, 8, (press, sx) -> press.faults(sx, 0, 0));
    edge.range(-8, 8, (press, sx) -> press.faults(sx, -8, 1));
    edge.says("Promise 19", "`sy`: -8 to 8");
    edge.range(-8, 8, (press, sy) -> press.faults(0, sy, 0));
    edge.range(-8, 8, (press, sy) -> press.faults(8, sy, 2));
    edge.says("Promise 19", "`what`: 0 the gaps, 1 the spills, 2 the lost lines");
    edge.range(0, 2, (press, what) -> press.faults(0, 0, what));
  }

  private void faultsAnswers() {
    edge.says("Promise 19", "Returns the number; INVALID_ARGUMENT if an argument is out of range.");
    int[] none = {0, 0, 0};
    faults(new Press(), 0, 0, none);
    faults(filled(1), 8, -8, new int[] {192, 0, 0});
    faults(filled(2), -8, 8, new int[] {192, 0, 192});
    Press full = filled(1);
    full.cut(0);
    faults(full, 0, 0, none);
    faults(full, 8, 8, new int[] {192 - 8 * 4, 0, 0});
    faults(full, -8, -8, new int[] {192 - 8 * 4, 0, 0});
    full.paint(0, 0, 16, 12, 0);
    faults(full, 0, 0, new int[] {0, 192, 0});
    faults(full, 8, -8, new int[] {0, 8 * 4, 0});
    full.paint(0, 0, 16, 12, 2);
    faults(full, 0, 0, new int[] {0, 0, 192});
    faults(full, 1, 0, new int[] {12, 0, 192});
  }

  private void faults(Press press, int sx, int sy, int[] due) {
    for (int what = 0; what <= 2; what++) {
      edge.same("fault " + what + " with " + sx + ", " + sy, press.faults(sx, sy, what), due[what]);
    }
  }

  private void faultsWithLineBlockAsItIs() {
    edge.says("Promise 19", "Returns what a proof would tell with a shift, the line block as it is.");
    Press press = Checks.framed(0);
    press.set(3, 3);
    press.setPins(4, 4);
    press.print(1);
    faults(press, 0, 0, new int[] {0, 0, 0});
    press.set(3, 2);
    faults(press, 0, 0, new int[] {18, 0, 18});
    faults(press, 1, 0, new int[] {18, 0, 18});
    press.plug(3, 3);
    faults(press, 0, 0, new int[] {17, 0, 17});
    press.carve(0, 3, 3, 0);
    faults(press, 0, 0, new int[] {18, 0, 18});
    press.carve(0, 0, 0, 1);
    faults(press, 0, 0, new int[] {18, 0, 18});
    press.setPins(-4, 0);
    int gaps = press.faults(-4, 0, 0);
    int spills = press.faults(-4, 0, 1);
    edge.same("a proof tells the same gaps", press.print(1), gaps);
    edge.same("and the same spills", press.proof(0, 4), spills);
  }

  private void whyArguments() {
    edge.says("Promise 20", "`x`: 0 to 15");
    edge.range(0, 15, (press, x) -> press.why(x, 11));
    edge.says("Promise 20", "`y`: 0 to 11");
    edge.range(0, 11, (press, y) -> press.why(15, y));
  }

  private void whyAnswers() {
    edge.says("Promise 20", "Returns 0 if it is printed as in the picture (a line, with colour or not; colour alone; nothing); otherwise "
        + "the first of these: 1 it is a gap, and the line block's cell there is worn, 2 it is another gap, 3 it is a spill, 4 a line "
        + "is printed in it though it is none, 5 it is a line, but only colour is printed; INVALID_ARGUMENT if an argument is out of "
        + "range.");
    // For each kind of a cell: nothing, colour, a line, both, a worn cell, a worn cell with colour.
    int[][] due = {{0, 3, 4, 3, 0, 3}, {2, 0, 4, 4, 1, 0}, {2, 5, 0, 0, 1, 5}};
    for (int kind = 0; kind <= 2; kind++) {
      for (int ink = 0; ink <= 5; ink++) {
        Press press = new Press();
        press.paint(15, 11, 1, 1, kind);
        press.carve(0, 15, 11, ink >= 2 ? 1 : 0);
        press.carve(1, 15, 11, ink % 2);
        press.set(3, ink >= 4 ? 4 : 5);
        press.print(1);
        edge.same("why a cell of kind " + kind + " has ink " + ink, press.why(15, 11), due[kind][ink]);
        press.set(3, 1000);
        edge.same("the same with a worn cell that is whole again", press.why(15, 11), due[kind][ink >= 4 ? ink - 2 : ink]);
      }
    }
  }

  private void whyWithRegisterAsItIs() {
    edge.says("Promise 20", "Tells about a cell with the register as it is.");
    Press press = new Press();
    press.paint(0, 0, 1, 1, 1);
    press.cut(0);
    edge.same("without a shift", press.why(0, 0), 0);
    press.setPins(4, 4);
    edge.same("a gap", press.why(0, 0), 2);
    edge.same("a spill where the colour is", press.why(4, 4), 3);
    press.set(1, 4);
    press.set(2, 4);
    press.set(0, 0);
    edge.same("the drift takes the pins back", press.why(0, 0), 0);
    edge.same("no spill", press.why(4, 4), 0);
    press.set(0, 100);
    edge.same("a spill as far as can be", press.why(8, 8), 3);
    press.setPins(-4, -4);
    press.set(0, 49);
    edge.same("colour outside of the picture is no spill", press.why(0, 0), 2);
  }

  /** A colour cell (7, 5) amid a square of the colour block that reaches r to each side. */
  private static Press square(int r) {
    Press press = new Press();
    press.paint(7, 5, 1, 1, 1);
    for (int y = 5 - r; y <= 5 + r; y++) {
      for (int x = 7 - r; x <= 7 + r; x++) {
        press.carve(1, x, y, 1);
      }
    }
    return press;
  }

  private void toleranceAnswers() {
    edge.says("Promise 21", "Returns the tolerance: the greatest r from 0 to 4 with which there is no gap with any shift both of whose "
        + "numbers are from -r to r.");
    for (int r = 0; r <= 4; r++) {
      edge.same("a square of " + r, square(r).tolerance(), r);
    }
    edge.same("a square of 5", square(5).tolerance(), 4);
    edge.same("a white picture", new Press().tolerance(), 4);
    Press lines = filled(2);
    lines.cut(0);
    edge.same("lines alone", lines.tolerance(), 4);
    Press edges = filled(1);
    edges.cut(0);
    edge.same("a full picture of colour", edges.tolerance(), 0);
  }

  private void toleranceOfEveryShift() {
    edge.says("Promise 21", "with any shift both of whose numbers are from -r to r.");
    for (int sx = -4; sx <= 4; sx++) {
      for (int sy = -4; sy <= 4; sy++) {
        Press press = square(4);
        press.carve(1, 7 - sx, 5 - sy, 0);
        int far = Math.max(Math.abs(sx), Math.abs(sy));
        edge.same("a gap with " + sx + ", " + sy + " alone", press.tolerance(), far == 0 ? Checks.NONE : far - 1);
      }
    }
    Press beyond = square(5);
    beyond.carve(1, 2, 0, 0);
    beyond.carve(1, 12, 5, 0);
    edge.same("gaps with shifts of five alone", beyond.tolerance(), 4);
  }

  private void toleranceNone() {
    edge.says("Promise 21", "Returns r; NONE if there are gaps without any shift.");
    edge.same("colour and blocks that print nowhere", filled(1).tolerance(), Checks.NONE);
    Press one = square(4);
    one.paint(15, 11, 1, 1, 2);
    edge.same("one line that is not cut", one.tolerance(), Checks.NONE);
    one.carve(0, 15, 11, 1);
    edge.same("it is carved", one.tolerance(), 4);
    one.print(9);
    edge.same("it is worn", one.tolerance(), Checks.NONE);
    one.set(3, 45);
    edge.same("it is whole again", one.tolerance(), 4);
    one.setPins(4, -4);
    edge.same("the register does not matter", one.tolerance(), 4);
  }

  private void trapForArguments() {
    edge.says("Promise 22", "`r`: 0 to 4");
    edge.range(0, 4, Press::trapFor);
  }

  private void trapForAnswers() {
    edge.says("Promise 22", "Finds the least trap with which blocks that were cut anew would have at least a tolerance.");
    edge.says("Promise 22", "Returns the trap, 0 to 4; INVALID_ARGUMENT if r is out of range; NONE if there is none.");
    Press press = filled(2);
    press.paint(7, 5, 1, 1, 1);
    int[] due = {0, 2, 4, Checks.NONE, Checks.NONE};
    Press white = new Press();
    for (int r = 0; r <= 4; r++) {
      edge.same("a colour cell amid lines, trapFor(" + r + ")", press.trapFor(r), due[r]);
      edge.same("lines alone, trapFor(" + r + ")", filled(2).trapFor(r), 0);
      edge.same("a white picture, trapFor(" + r + ")", white.trapFor(r), 0);
      edge.same("colour alone, trapFor(" + r + ")", filled(1).trapFor(r), r == 0 ? 0 : Checks.NONE);
    }
    press.paint(5, 3, 1, 1, 0);
    edge.same("a corner that is white, trapFor(2)", press.trapFor(2), Checks.NONE);
    edge.same("a corner that is white, trapFor(1)", press.trapFor(1), 2);
    edge.same("a number out of range comes ahead of NONE", press.trapFor(5), Checks.INVALID);
    // At the picture's edge, colour that is shifted away is missing, whatever the trap.
    Press atEdge = filled(2);
    atEdge.paint(1, 1, 1, 1, 1);
    edge.same("a cell away from the edge", atEdge.trapFor(1), 2);
    edge.same("a cell away from the edge, two steps", atEdge.trapFor(2), Checks.NONE);
    atEdge.paint(15, 5, 1, 1, 1);
    edge.same("at the edge", atEdge.trapFor(1), Checks.NONE);
    edge.same("at the edge without a shift", atEdge.trapFor(0), 0);
  }

  private void trapForBlocksCutAnew() {
    edge.says("Promise 22", "blocks that were cut anew");
    Press press = Checks.framed(0);
    press.set(3, 1);
    press.print(1);
    press.setPins(-4, 4);
    for (int i = 0; i < 30; i++) {
      press.carve(0, 3 + i % 6, 3 + i / 6, 0);
      press.carve(1, 3 + i % 6, 3 + i / 6, 0);
    }
    edge.same("blocks that are carved away do not matter", press.trapFor(0), 0);
    edge.same("the least trap for a frame of one", press.trapFor(1), 2);
    edge.same("a frame of one does not do for two", press.trapFor(2), Checks.NONE);
    press.cut(press.trapFor(1));
    edge.same("that trap does", press.tolerance(), 1);
    press.cut(1);
    edge.same("one less does not", press.tolerance(), 0);
  }

  private void bestPinsArguments() {
    edge.says("Promise 23", "Returns the number; INVALID_ARGUMENT if what is out of range.");
    edge.range(0, 2, Press::bestPins);
  }

  private void bestPins(String what, Press press, int px, int py, int faults) {
    edge.same(what + ", px plus 4", press.bestPins(0), px + 4);
    edge.same(what + ", py plus 4", press.bestPins(1), py + 4);
    edge.same(what + ", gaps and spills", press.bestPins(2), faults);
  }

  private void bestPinsEnds() {
    edge.says("Promise 23", "Finds the pins with which gaps and spills together are fewest, all else as it is.");
    for (int px = -4; px <= 4; px++) {
      for (int py = -4; py <= 4; py++) {
        Press press = new Press();
        press.paint(7 + px, 5 + py, 1, 1, 1);
        press.carve(1, 7, 5, 1);
        bestPins("one cell", press, px, py, 0);
      }
    }
    Press beyond = new Press();
    beyond.paint(12, 5, 1, 1, 1);
    beyond.carve(1, 7, 5, 1);
    bestPins("a cell that is five away", beyond, -4, -4, 2);
    Press full = filled(1);
    bestPins("nothing but gaps", full, -4, -4, 192);
    full.cut(0);
    bestPins("a full block", full, 0, 0, 0);
    Press spilt = filled(1);
    spilt.cut(0);
    spilt.paint(0, 0, 16, 12, 0);
    bestPins("nothing but spills", spilt, -4, -4, 12 * 8);
  }

  private void bestPinsOfSeveral() {
    edge.says("Promise 23", "`what`: 0 px plus 4, 1 py plus 4, 2 gaps and spills together; of several pins those with the least px, then "
        + "those with the least py");
    bestPins("all are as good", new Press(), -4, -4, 0);
    int[][] pairs = {{-1, 4, 0, -4}, {-4, 4, 4, -4}, {3, -2, 3, 1}, {-4, -4, -4, -3}, {0, 4, 1, -4}, {4, 3, 4, 4}};
    for (int[] pair : pairs) {
      Press press = new Press();
      press.paint(7 + pair[0], 5 + pair[1], 1, 1, 1);
      press.paint(7 + pair[2], 5 + pair[3], 1, 1, 1);
      press.carve(1, 7, 5, 1);
      bestPins("two that are as good", press, pair[0], pair[1], 1);
    }
  }

  private void bestPinsAllElseAsItIs() {
    edge.says("Promise 23", "all else as it is.");
    Press press = new Press();
    press.paint(7, 5, 1, 1, 1);
    press.carve(1, 7, 5, 1);
    press.set(1, 4);
    press.set(2, -4);
    press.set(0, 100);
    bestPins("against the greatest drift", press, -4, 4, 0);
    press.set(0, 0);
    bestPins("against the least drift", press, 4, -4, 0);
    press.setPins(1, 1);
    bestPins("whatever the pins are", press, 4, -4, 0);
    edge.same("the pins stay", press.count(6) * 10 + press.count(7), 11);
    press.paint(0, 0, 1, 1, 2);
    press.carve(0, 0, 0, 1);
    bestPins("a line", press, 4, -4, 0);
    press.print(9);
    press.set(0, 0);
    bestPins("a worn line is a gap with all pins", press, 4, -4, 1);
    press.set(3, 45);
    bestPins("a line that is whole again", press, 4, -4, 0);
  }

  private void printsLeftLeast() {
    edge.says("Promise 24", "Tells how many prints can be made until a cell that is not worn now is worn");
    Press press = new Press();
    press.carve(0, 7, 5, 1);
    for (int left = 9; left >= 1; left--) {
      edge.same("a lone cell at hardness 40", press.printsLeft(), left);
      edge.same("not worn yet", press.count(15), 0);
      press.print(1);
    }
    edge.same("worn then", press.count(15), 1);
    int[] hardness = {45, 46, 49, 50, 54, 55};
    int[] due = {1, 1, 1, 2, 2, 3};
    for (int i = 0; i < hardness.length; i++) {
      press.set(3, hardness[i]);
      edge.same("a wear of 45 at hardness " + hardness[i], press.printsLeft(), due[i]);
    }
    Press soft = filled(2);
    soft.cut(0);
    soft.set(3, 1);
    edge.same("the least hardness", soft.printsLeft(), 1);
    // The first of several: a lone cell is worn ahead of a full frame.
    Press frame = Checks.framed(0);
    edge.same("a frame at hardness 40", frame.printsLeft(), 14);
    frame.carve(0, 15, 11, 1);
    edge.same("a frame and a lone cell", frame.printsLeft(), 9);
    frame.print(9);
    edge.same("the lone cell is worn, the frame is next", frame.printsLeft(), 5);
    frame.print(4);
    edge.same("the last print", frame.printsLeft(), 1);
    edge.same("none but the lone cell is worn", frame.count(15), 1);
    frame.print(1);
    edge.same("all are worn", frame.count(15), 19);
  }

  private void printsLeftGreatest() {
    edge.says("Promise 24", "Returns the number of prints behind which the first one is worn, at most 500;");
    // A block's outermost cells have two open sides at least: 3 a print, so that 334 prints are the most.
    Press press = filled(2);
    press.cut(0);
    press.set(3, 1000);
    edge.same("a full block at the greatest hardness", press.printsLeft(), 334);
    for (int i = 0; i < 3; i++) {
      press.print(100);
    }
    press.print(33);
    edge.same("behind 333 prints none is worn", press.count(15), 0);
    edge.same("the corners' wear", press.cell(0, 0, 3), 999);
    edge.same("one is left", press.printsLeft(), 1);
    press.print(1);
    edge.same("the four corners are worn", press.count(15), 4);
    Press lone = new Press();
    lone.carve(0, 0, 0, 1);
    lone.set(3, 1000);
    edge.same("a lone cell at the greatest hardness", lone.printsLeft(), 201);
    Press two = new Press();
    two.carve(0, 0, 0, 1);
    two.carve(0, 0, 1, 1);
    two.set(3, 1000);
    edge.same("two cells at the greatest hardness", two.printsLeft(), 251);
  }

  private void printsLeftNone() {
    edge.says("Promise 24", "NONE if there is none then.");
    Press press = filled(2);
    edge.same("a line block that prints nowhere", press.printsLeft(), Checks.NONE);
    press.carve(0, 15, 11, 1);
    press.print(9);
    edge.same("all are worn", press.printsLeft(), Checks.NONE);
    press.set(3, 45);
    edge.same("one is whole again", press.printsLeft(), 1);
    press.set(3, 44);
    edge.same("and worn again", press.printsLeft(), Checks.NONE);
    press.carve(0, 14, 11, 1);
    edge.same("a new one beside it", press.printsLeft(), 9);
    press.carve(0, 14, 11, 0);
    edge.same("carved away", press.printsLeft(), Checks.NONE);
    press.plug(15, 11);
    edge.same("plugged", press.printsLeft(), 9);
  }

  private void printsLeftWithoutLimit() {
    edge.says("Promise 24", "(the limit of print() does not matter).");
    Press press = new Press();
    for (int i = 0; i < 50; i++) {
      press.print(100);
    }
    press.carve(0, 7, 5, 1);
    edge.same("no print can be made", press.print(1), Checks.CAPACITY);
    edge.same("but nine would be", press.printsLeft(), 9);
  }

  private void changesNothing() {
    edge.says("Errors", "---- reasons, and what would be, which changes nothing.");
    Press press = Checks.busy();
    java.util.List<Integer> before = Looks.whole(press);
    for (int i = 0; i < 9; i++) {
      press.faults(i - 4, 8 - i, i % 3);
      press.why(i, i);
      press.tolerance();
      press.trapFor(i % 5);
      press.bestPins(i % 3);
      press.printsLeft();
    }
    edge.holds("all is as it was", before.equals(Looks.whole(press)));
  }
}
