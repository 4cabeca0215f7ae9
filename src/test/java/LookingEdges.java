/** The boundary cases of promises 15 to 18. */
final class LookingEdges {
  private final Edge edge;

  LookingEdges(Edge edge) {
    this.edge = edge;
  }

  void check() {
    countArguments();
    countLeast();
    countGreatest();
    countWornOnes();
    cellArguments();
    cellKinds();
    cellBlocks();
    cellWear();
    printedArguments();
    printedAnswers();
    proofArguments();
    proofParts();
    proofNotSoMany();
  }

  private static Press filled(int kind) {
    Press press = new Press();
    press.paint(0, 0, 16, 12, kind);
    return press;
  }

  private void countArguments() {
    edge.says("Promise 15", "Returns the number; INVALID_ARGUMENT if what is out of range.");
    edge.range(0, 19, Press::count);
    Press press = Checks.busy();
    edge.same("the last one, the text's length", press.count(19), 6);
    edge.same("the first one, the prints", press.count(0), 13);
    edge.same("looking is no action", press.count(18), 5);
  }

  private void countLeast() {
    edge.says("Promise 15", "`what`: 0 the prints so far, 1 to 5 the settings of set(), 6 and 7 the pins px and py, 8 and 9 sx and sy, "
        + "10 to 12 the cells of the picture that are white, colour and lines, 13 the cells in which the line block prints "
        + "(worn ones included), 14 those in which the colour block prints, 15 the worn cells, 16 the proofs in the log, "
        + "17 the snapshots, 18 the states in the history, 19 the length of the text");
    Press press = Checks.busy();
    // The damp is 50 less thirteen times 2; sx is 1 and sy -1, with a drift of (-26 * 1) // 50 and (-26 * 3) // 50.
    int[] due = {13, 24, 1, 3, 40, 2, 1, -1, 1, -2, 192 - 32, 14, 18, 19, 26, 1, 12, 2, 5, 6};
    for (int what = 0; what <= 19; what++) {
      edge.same("count(" + what + ") amid the work", press.count(what), due[what]);
    }
    Press low = new Press();
    low.set(0, 0);
    low.set(1, -4);
    low.set(2, -4);
    low.set(3, 1);
    low.set(4, 0);
    low.setPins(-4, -4);
    int[] least = {0, -4, -4, 1, 0, -4, -4, 0, 0};
    for (int what = 1; what <= 9; what++) {
      edge.same("count(" + what + ") at its least", low.count(what), least[what - 1]);
    }
    int[] none = {0, 13, 14, 15, 16, 17, 19};
    for (int what : none) {
      edge.same("count(" + what + ") of none", low.count(what), 0);
    }
  }

  private void countGreatest() {
    edge.says("Promise 15", "Returns a number.");
    Press high = new Press();
    high.set(0, 100);
    high.set(1, 4);
    high.set(2, 4);
    high.set(3, 1000);
    high.set(4, 10);
    high.setPins(4, 4);
    int[] greatest = {100, 4, 4, 1000, 10, 4, 4, 8, 8};
    for (int what = 1; what <= 9; what++) {
      edge.same("count(" + what + ") at its greatest", high.count(what), greatest[what - 1]);
    }
    for (int kind = 0; kind <= 2; kind++) {
      for (int other = 0; other <= 2; other++) {
        edge.same("cells of kind " + other + " in a picture of " + kind, filled(kind).count(10 + other), kind == other ? 192 : 0);
      }
    }
    Press full = filled(2);
    full.cut(0);
    edge.same("a full line block", full.count(13), 192);
    edge.same("no worn cell", full.count(15), 0);
    full.set(3, 1);
    full.print(2);
    edge.same("all worn", full.count(15), 192);
    full.paint(0, 0, 16, 12, 1);
    full.cut(4);
    edge.same("a full colour block", full.count(14), 192);
    full.take(1);
    edge.same("one snapshot", full.count(17), 1);
    full.take(0);
    edge.same("both snapshots", full.count(17), 2);
    full.print(11);
    edge.same("a full log", full.count(16), 12);
    Checks.write(full, "  ");
    edge.same("the text", full.count(19), 2);
  }

  private void countWornOnes() {
    edge.says("Promise 15", "13 the cells in which the line block prints (worn ones included)");
    Press press = Checks.framed(1);
    press.set(3, 2);
    press.print(1);
    edge.same("all of them are worn", press.count(15), 18);
    edge.same("they are included", press.count(13), 18);
    press.plug(3, 3);
    edge.same("one is plugged", press.count(15), 17);
    edge.same("as many print", press.count(13), 18);
    press.carve(0, 4, 3, 0);
    edge.same("one less is worn when it is carved away", press.count(15), 16);
    edge.same("one less prints", press.count(13), 17);
    press.setPins(4, 4);
    edge.same("the colour block is not shifted here", press.count(14), 26);
  }

  private void cellArguments() {
    edge.says("Promise 16", "Returns something about a cell.");
    edge.same("looking is no action", looked(press -> press.cell(0, 0, 0)), 5);
    edge.says("Promise 16", "`x`: 0 to 15");
    edge.range(0, 15, (press, x) -> press.cell(x, 11, 0));
    edge.says("Promise 16", "`y`: 0 to 11");
    edge.range(0, 11, (press, y) -> press.cell(15, y, 4));
    edge.says("Promise 16", "Returns the number; INVALID_ARGUMENT if an argument is out of range.");
    edge.range(0, 4, (press, what) -> press.cell(0, 11, what));
  }

  /** The states in the history of a press behind some calls. */
  private static int looked(java.util.function.Consumer<Press> call) {
    Press press = Checks.busy();
    for (int i = 0; i < 6; i++) {
      call.accept(press);
    }
    return press.count(18);
  }

  private void cellKinds() {
    edge.says("Promise 16", "`what`: 0 what it is in the picture,");
    for (int corner = 0; corner < 4; corner++) {
      Press press = filled(1);
      press.paint(corner % 2 * 15, corner / 2 * 11, 1, 1, 2);
      for (int other = 0; other < 4; other++) {
        edge.same("corner " + other, press.cell(other % 2 * 15, other / 2 * 11, 0), other == corner ? 2 : 1);
      }
    }
  }

  private void cellBlocks() {
    edge.says("Promise 16", "1 1 if the line block prints in it (also if it is worn there) and 0 if not, "
        + "2 1 if the colour block (not shifted) does and 0 if not,");
    Press press = Checks.framed(1);
    press.set(3, 2);
    press.print(1);
    edge.same("a worn cell prints", press.cell(3, 3, 1), 1);
    edge.same("a cell beside it does not", press.cell(2, 3, 1), 0);
    edge.same("nor does a colour cell", press.cell(4, 4, 1), 0);
    press.setPins(4, 4);
    edge.same("the colour block is where it is without a shift", press.cell(4, 4, 2), 1);
    edge.same("and not where it is with it", press.cell(9, 9, 2), 0);
    edge.same("a trapped line", press.cell(4, 3, 2), 1);
    edge.same("the frame's corner is not trapped", press.cell(3, 3, 2), 0);
  }

  private void cellWear() {
    edge.says("Promise 16", "3 its wear (0 if the line block does not print in it), 4 1 if it is worn and 0 if not");
    Press press = Checks.framed(1);
    press.set(3, 3);
    press.print(1);
    edge.same("its wear", press.cell(3, 3, 3), 3);
    edge.same("not worn as great as the hardness", press.cell(3, 3, 4), 0);
    press.set(3, 2);
    edge.same("worn with less hardness", press.cell(3, 3, 4), 1);
    edge.same("the wear stays", press.cell(3, 3, 3), 3);
    edge.same("no wear where nothing prints", press.cell(0, 0, 3), 0);
    edge.same("not worn where nothing prints", press.cell(0, 0, 4), 0);
    press.carve(0, 3, 3, 0);
    edge.same("no wear where it was carved away", press.cell(3, 3, 3), 0);
    edge.same("not worn where it was carved away", press.cell(3, 3, 4), 0);
    press.paint(4, 3, 1, 1, 0);
    edge.same("the picture is another thing", press.cell(4, 3, 3), 3);
    press.cut(1);
    edge.same("no wear where nothing is cut", press.cell(4, 3, 3), 0);
    Press far = new Press();
    far.carve(0, 15, 11, 1);
    far.set(3, 1000);
    for (int i = 0; i < 2; i++) {
      far.print(100);
    }
    far.print(1);
    edge.same("the greatest wear of a lone cell", far.cell(15, 11, 3), 1005);
    far.print(1);
    edge.same("it goes no further", far.cell(15, 11, 3), 1005);
  }

  private void printedArguments() {
    edge.says("Promise 17", "`x`: 0 to 15");
    edge.range(0, 15, (press, x) -> press.printed(x, 11, 0, 0));
    edge.says("Promise 17", "`y`: 0 to 11");
    edge.range(0, 11, (press, y) -> press.printed(15, y, 0, 0));
    edge.says("Promise 17", "`sx`: -8 to 8");
    edge.range(-8, 8, (press, sx) -> press.printed(0, 0, sx, 0));
    edge.range(-8, 8, (press, sx) -> press.printed(15, 11, sx, 8));
    edge.says("Promise 17", "`sy`: -8 to 8");
    edge.range(-8, 8, (press, sy) -> press.printed(0, 0, 0, sy));
    edge.range(-8, 8, (press, sy) -> press.printed(15, 11, -8, sy));
  }

  private void printedAnswers() {
    edge.says("Promise 17", "Tells what would be printed in a cell with a shift.");
    edge.says("Promise 17", "Returns 0 nothing, 1 colour, 2 a line, 3 both; INVALID_ARGUMENT if an argument is out of range.");
    Press press = Checks.framed(1);
    press.setPins(4, 4);
    edge.same("nothing", press.printed(0, 0, 0, 0), 0);
    edge.same("colour", press.printed(4, 4, 0, 0), 1);
    edge.same("a line", press.printed(3, 3, 0, 0), 2);
    edge.same("both", press.printed(4, 3, 0, 0), 3);
    edge.same("colour without the picture's colour", press.printed(9, 4, 1, 0), 1);
    edge.same("both with the shift alone", press.printed(3, 3, -1, 0), 3);
    edge.same("the line alone with another shift", press.printed(4, 3, 8, 8), 2);
    press.set(3, 2);
    press.print(1);
    edge.same("a worn line is nothing", press.printed(3, 3, 0, 0), 0);
    edge.same("a worn line with colour is colour", press.printed(4, 3, 0, 0), 1);
    press.set(3, 3);
    edge.same("as great as the hardness is a line", press.printed(3, 3, 0, 0), 2);
    Press full = filled(1);
    full.cut(0);
    edge.same("the first cell, shifted as far as can be", full.printed(0, 0, -8, -8), 1);
    edge.same("the last cell, shifted as far as can be", full.printed(15, 11, 8, 8), 1);
    edge.same("the last cell whose colour is from within", full.printed(7, 3, -8, -8), 1);
    edge.same("a cell whose colour would be from outside", full.printed(8, 3, -8, -8), 0);
    edge.same("a cell whose colour would be from outside", full.printed(7, 4, -8, -8), 0);
  }

  private void proofArguments() {
    edge.says("Promise 18", "Returns a part of a proof in the log.");
    edge.same("looking is no action", looked(press -> press.proof(0, 0)), 5);
    edge.says("Promise 18", "Returns the part; INVALID_ARGUMENT if back is negative or what is out of range; NONE if there are not so many.");
    edge.refuses(new int[] {-1, -2, -12, Integer.MIN_VALUE}, (press, back) -> press.proof(back, 0));
    edge.range(0, 5, (press, what) -> press.proof(0, what));
    edge.range(0, 5, (press, what) -> press.proof(11, what));
  }

  private void proofParts() {
    edge.says("Promise 18", "`back`: 0 for the latest one");
    edge.says("Promise 18", "`what`: 0 its number (1 for the first print of all), 1 sx plus 8, 2 sy plus 8, 3 the gaps, 4 the spills, "
        + "5 the lost lines");
    Press press = Checks.framed(0);
    press.set(4, 0);
    press.print(1);
    edge.same("the first print's number", press.proof(0, 0), 1);
    edge.same("sx plus 8 without a shift", press.proof(0, 1), 8);
    edge.same("sy plus 8 without a shift", press.proof(0, 2), 8);
    press.set(0, 0);
    press.set(1, 4);
    press.set(2, -4);
    press.setPins(-4, 4);
    press.print(1);
    edge.same("the least sx plus 8", press.proof(0, 1), 0);
    edge.same("the greatest sy plus 8", press.proof(0, 2), 16);
    edge.same("twelve gaps", press.proof(0, 3), 12);
    // The colour is in the columns 4 to 7 and the rows 4 to 6: -4 to -1 is outside, and so is 12 to 14.
    edge.same("no spills outside", press.proof(0, 4), 0);
    edge.same("no lost lines", press.proof(0, 5), 0);
    press.set(0, 100);
    press.setPins(4, 0);
    press.carve(0, 3, 3, 0);
    press.print(1);
    edge.same("the greatest sx plus 8", press.proof(0, 1), 16);
    edge.same("sy plus 8", press.proof(0, 2), 4);
    edge.same("thirteen gaps", press.proof(0, 3), 13);
    edge.same("twelve spills", press.proof(0, 4), 12);
    edge.same("one lost line", press.proof(0, 5), 1);
    edge.same("the one ahead of it", press.proof(1, 0), 2);
    edge.same("the first one", press.proof(2, 0), 1);
  }

  private void proofNotSoMany() {
    edge.says("Promise 18", "NONE if there are not so many.");
    for (int what = 0; what <= 5; what++) {
      int part = what;
      Press press = new Press();
      edge.refused("an empty log", press, Checks.NONE, () -> press.proof(0, part));
      for (int prints = 1; prints <= 14; prints++) {
        press.print(1);
        int kept = Math.min(prints, 12);
        edge.holds("the oldest of " + prints, press.proof(kept - 1, part) >= 0);
        edge.same("one more of " + prints, press.proof(kept, part), Checks.NONE);
        edge.same("far more of " + prints, press.proof(Integer.MAX_VALUE, part), Checks.NONE);
      }
      press.undo();
      edge.same("behind undo", press.proof(0, 0), 13);
    }
    Press press = Checks.busy();
    edge.refused("behind the oldest", press, Checks.NONE, () -> press.proof(12, 5));
    edge.refused("a part out of range comes first", press, Checks.INVALID, () -> press.proof(12, 6));
    edge.refused("a part out of range comes first", press, Checks.INVALID, () -> press.proof(Integer.MAX_VALUE, -1));
  }
}
