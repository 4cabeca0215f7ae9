/** The boundary cases of register and prints, and of promises 6 to 8. */
final class PrintEdges {
  private final Edge edge;

  PrintEdges(Edge edge) {
    this.edge = edge;
  }

  void check() {
    roundedTowardZero();
    everyDampAndStretch();
    registerAtFirst();
    greatestShifts();
    shiftedBlock();
    outsideOfShiftedBlock();
    wornBeyondHardness();
    wornAsHardnessIsNow();
    wornPrintsNoLine();
    oneAfterTheOther();
    faultsOfProof();
    logKeepsTwelve();
    wearBySides();
    wearAtEdges();
    wearAsAheadOfStep();
    dampAtLeastZero();
    setPinsArguments();
    setPinsAnswers();
    setArguments();
    setValues();
    setAnswers();
    printArguments();
    printAnswers();
    printLimit();
    printIsOneAction();
  }

  private static Press register(int damp, int kx, int ky, int px, int py) {
    Press press = new Press();
    press.set(0, damp);
    press.set(1, kx);
    press.set(2, ky);
    press.setPins(px, py);
    return press;
  }

  private void shifts(int damp, int stretch, int due) {
    Press press = register(damp, stretch, stretch, 0, 0);
    edge.same("sx with damp " + damp + " and stretch " + stretch, press.count(8), due);
    edge.same("sy with damp " + damp + " and stretch " + stretch, press.count(9), due);
    Press pinned = register(damp, stretch, -stretch, 3, -2);
    edge.same("sx with pins", pinned.count(8), 3 + due);
    edge.same("sy with pins", pinned.count(9), -2 - due);
  }

  private void roundedTowardZero() {
    edge.says("Terms", "All numbers are whole; \"/\" is the division rounded down, \"//\" the division rounded toward 0.");
    edge.says("Register", "The colour block is shifted against the line block by (sx, sy): sx is px + (damp - 50) * kx // 50, "
        + "and sy is py + (damp - 50) * ky // 50,");
    int[][] due = {{50, 4, 0}, {51, 4, 0}, {49, 4, 0}, {62, 4, 0}, {63, 4, 1}, {38, 4, 0}, {37, 4, -1}, {99, 1, 0}, {100, 1, 1},
        {1, 1, 0}, {0, 1, -1}, {74, -2, 0}, {75, -2, -1}, {26, -2, 0}, {25, -2, 1}, {99, 4, 3}, {100, 4, 4}, {1, 4, -3},
        {0, 4, -4}, {99, -4, -3}, {100, -4, -4}, {1, -4, 3}, {0, -4, 4}, {0, 0, 0}, {100, 0, 0}};
    for (int[] one : due) {
      shifts(one[0], one[1], one[2]);
    }
  }

  private void everyDampAndStretch() {
    edge.says("Register", "sx is px + (damp - 50) * kx // 50");
    for (int stretch = -4; stretch <= 4; stretch++) {
      for (int damp = 0; damp <= 100; damp++) {
        int product = (damp - 50) * stretch;
        int size = 0;
        while ((size + 1) * 50 <= Math.abs(product)) {
          size++;
        }
        shifts(damp, stretch, product < 0 ? -size : size);
      }
    }
  }

  private void registerAtFirst() {
    edge.says("Register", "where px and py are the pins, -4 to 4 (at first 0), kx and ky the stretches, -4 to 4 "
        + "(at first 1 and 0), and the damp is 0 to 100 (at first 50).");
    Press press = new Press();
    edge.same("px", press.count(6), 0);
    edge.same("py", press.count(7), 0);
    edge.same("kx", press.count(2), 1);
    edge.same("ky", press.count(3), 0);
    edge.same("the damp", press.count(1), 50);
    press.set(0, 0);
    edge.same("sx at the least damp", press.count(8), -1);
    edge.same("sy at the least damp", press.count(9), 0);
    press.set(0, 100);
    edge.same("sx at the greatest damp", press.count(8), 1);
  }

  private void greatestShifts() {
    edge.says("Register", "The colour block is shifted against the line block by (sx, sy):");
    Press press = register(100, 4, -4, 4, -4);
    edge.same("the greatest sx", press.count(8), 8);
    edge.same("the least sy", press.count(9), -8);
    press.print(1);
    edge.same("sx plus 8 in the proof", press.proof(0, 1), 16);
    edge.same("sy plus 8 in the proof", press.proof(0, 2), 0);
    Press other = register(0, 4, -4, -4, 4);
    edge.same("the least sx", other.count(8), -8);
    edge.same("the greatest sy", other.count(9), 8);
  }

  private void shiftedBlock() {
    edge.says("Register", "The colour block, shifted by (sx, sy), prints in the cell (x, y) if its cell (x - sx, y - sy) prints;");
    for (int shift = 0; shift < 17 * 17; shift += 4) {
      int sx = shift % 17 - 8;
      int sy = shift / 17 - 8;
      int x = sx < 0 ? 8 : 7;
      int y = sy < 0 ? 8 : 3;
      Press press = new Press();
      press.carve(1, x, y, 1);
      edge.same("the cell shifted by " + sx + ", " + sy, press.printed(x + sx, y + sy, sx, sy), 1);
      edge.same("its place without a shift", press.printed(x, y, sx, sy), shift == 144 ? 1 : 0);
      edge.same("one spill", press.faults(sx, sy, 1), 1);
    }
  }

  private void outsideOfShiftedBlock() {
    edge.says("Register", "cells outside of it do not.");
    Press press = new Press();
    press.paint(0, 0, 16, 12, 1);
    press.cut(0);
    for (int sx = -8; sx <= 8; sx += 2) {
      for (int sy = -8; sy <= 8; sy += 2) {
        int covered = (16 - Math.abs(sx)) * (12 - Math.abs(sy));
        edge.same("gaps with " + sx + ", " + sy, press.faults(sx, sy, 0), 192 - covered);
      }
    }
    edge.same("the column ahead of the shifted block", press.printed(0, 5, 1, 0), 0);
    edge.same("its first column", press.printed(1, 5, 1, 0), 1);
    edge.same("the column behind it", press.printed(15, 5, -1, 0), 0);
    edge.same("its last column", press.printed(14, 5, -1, 0), 1);
    edge.same("the row ahead of it", press.printed(5, 0, 0, 1), 0);
    edge.same("its first row", press.printed(5, 1, 0, 1), 1);
    edge.same("the row behind it", press.printed(5, 11, 0, -1), 0);
    edge.same("its last row", press.printed(5, 10, 0, -1), 1);
  }

  /** A press with one cell of the line block, which wears by 5 with each print. */
  private static Press lone(int hardness) {
    Press press = new Press();
    press.paint(7, 5, 1, 1, 2);
    press.cut(0);
    press.set(3, hardness);
    return press;
  }

  private void wornBeyondHardness() {
    edge.says("Prints", "A cell of the line block that prints has a wear, at first 0; it is worn if its wear is greater "
        + "than the hardness as it is now, 1 to 1000 (at first 40).");
    Press first = lone(40);
    edge.same("the wear at first", first.cell(7, 5, 3), 0);
    edge.same("the hardness at first", new Press().count(4), 40);
    first.print(8);
    edge.same("a wear of 40", first.cell(7, 5, 3), 40);
    edge.same("as great as the hardness is not worn", first.cell(7, 5, 4), 0);
    first.print(1);
    edge.same("a wear of 45 is worn", first.cell(7, 5, 4), 1);
    Press hard = lone(1000);
    hard.print(100);
    hard.print(100);
    edge.same("a wear of 1000", hard.cell(7, 5, 3), 1000);
    edge.same("with the greatest hardness it is not worn", hard.cell(7, 5, 4), 0);
    hard.print(1);
    edge.same("a wear of 1005", hard.cell(7, 5, 3), 1005);
    edge.same("it is worn", hard.count(15), 1);
    Press soft = full();
    soft.set(3, 1);
    soft.print(1);
    edge.same("a wear of 1", soft.cell(7, 5, 3), 1);
    edge.same("with the least hardness it is not worn", soft.cell(7, 5, 4), 0);
    edge.same("those at the edges are", soft.count(15), 2 * 16 + 2 * 10);
  }

  private static Press full() {
    Press press = new Press();
    press.paint(0, 0, 16, 12, 2);
    press.cut(0);
    return press;
  }

  private void wornAsHardnessIsNow() {
    edge.says("Prints", "than the hardness as it is now");
    Press press = lone(1000);
    press.print(2);
    int[] hardness = {11, 10, 9, 1, 10, 1000, 9};
    int[] worn = {0, 0, 1, 1, 0, 0, 1};
    for (int i = 0; i < hardness.length; i++) {
      press.set(3, hardness[i]);
      edge.same("a wear of 10 at hardness " + hardness[i], press.count(15), worn[i]);
      edge.same("the wear stays", press.cell(7, 5, 3), 10);
    }
    press.print(5);
    edge.same("a worn cell wears no more", press.cell(7, 5, 3), 10);
    press.set(3, 10);
    press.print(1);
    edge.same("a cell that is whole again does", press.cell(7, 5, 3), 15);
  }

  private void wornPrintsNoLine() {
    edge.says("Prints", "A worn cell prints no line.");
    Press press = lone(5);
    press.carve(1, 7, 5, 1);
    press.print(1);
    edge.same("a line and colour at the limit", press.printed(7, 5, 0, 0), 3);
    press.print(1);
    edge.same("colour alone beyond it", press.printed(7, 5, 0, 0), 1);
    edge.same("the line is lost", press.faults(0, 0, 2), 1);
    edge.same("it still counts as a cell of the block", press.count(13), 1);
  }

  private void oneAfterTheOther() {
    edge.says("Prints", "When a print is made, these things happen one after the other:");
    edge.says("Prints", "1. The proof is found, with the register as it is:");
    Press press = lone(4);
    press.set(0, 100);
    press.set(4, 10);
    edge.same("the print by which the line is worn still has it", press.print(1), 0);
    edge.same("it is worn then", press.count(15), 1);
    edge.same("its shift is that ahead of the drying", press.proof(0, 1), 9);
    edge.same("the shift is another one then", press.count(8), 0);
    edge.same("the next print has a gap", press.print(1), 1);
    edge.same("its shift", press.proof(0, 1), 8);
    edge.same("the lost lines of the two", press.proof(0, 5) * 10 + press.proof(1, 5), 10);
  }

  private void faultsOfProof() {
    edge.says("Prints", "the gaps are the cells of the picture that are colour or lines, in which neither a line nor colour is "
        + "printed; the spills are the white cells in which colour is printed; the lost lines are the cells that are lines in the "
        + "picture, in which no line is printed.");
    // For each kind of a cell (rows) and each ink (nothing, colour, a line, both): gaps, spills, lost lines.
    int[][] due = {{0, 10, 0, 10}, {100, 0, 0, 0}, {101, 1, 0, 0}};
    for (int kind = 0; kind <= 2; kind++) {
      for (int ink = 0; ink <= 3; ink++) {
        Press press = new Press();
        press.paint(15, 11, 1, 1, kind);
        press.carve(1, 15, 11, ink & 1);
        press.carve(0, 15, 11, ink >> 1);
        edge.same("gaps of kind " + kind + " with ink " + ink, press.print(1), due[kind][ink] / 100);
        edge.same("the proof", press.proof(0, 3) * 100 + press.proof(0, 4) * 10 + press.proof(0, 5), due[kind][ink]);
      }
    }
    Press all = new Press();
    all.paint(0, 0, 16, 12, 2);
    edge.same("a picture of lines, and blocks without a cell", all.print(1), 192);
    edge.same("all are lost", all.proof(0, 5), 192);
    Press spilt = new Press();
    spilt.paint(0, 0, 16, 12, 1);
    spilt.cut(0);
    spilt.paint(0, 0, 16, 12, 0);
    spilt.print(1);
    edge.same("a white picture, and a full colour block", spilt.proof(0, 4), 192);
  }

  private void logKeepsTwelve() {
    edge.says("Prints", "The proof (with sx and sy) comes into the log, which keeps the latest 12.");
    Press press = new Press();
    press.set(4, 0);
    edge.same("none at first", press.count(16), 0);
    for (int prints = 1; prints <= 30; prints++) {
      press.setPins(prints % 9 - 4, 4 - prints % 9);
      press.print(1);
      int kept = Math.min(prints, 12);
      edge.same("proofs behind " + prints, press.count(16), kept);
      edge.same("the latest one", press.proof(0, 0), prints);
      edge.same("the oldest one", press.proof(kept - 1, 0), prints - kept + 1);
      edge.same("its sx plus 8", press.proof(kept - 1, 1), (prints - kept + 1) % 9 + 4);
      edge.same("its sy plus 8", press.proof(kept - 1, 2), 12 - (prints - kept + 1) % 9);
      edge.same("none behind it", press.proof(kept, 0), Checks.NONE);
    }
    Press many = new Press();
    many.print(12);
    edge.same("the first one is kept behind 12", many.proof(11, 0), 1);
    many.print(1);
    edge.same("the first one is dropped behind 13", many.proof(11, 0), 2);
    many.print(100);
    edge.same("the oldest behind 113", many.proof(11, 0), 102);
  }

  private void wearBySides() {
    edge.says("Prints", "2. The wear of each cell of the line block that prints and is not worn becomes greater by 1, and by 1 "
        + "more for each of its four sides on which there is no neighbor that prints and is not worn");
    int[][] ways = {{1, 0}, {-1, 0}, {0, 1}, {0, -1}};
    for (int sides = 0; sides < 16; sides++) {
      Press press = new Press();
      press.carve(0, 7, 5, 1);
      for (int i = 0; i < 4; i++) {
        press.carve(0, 7 + ways[i][0], 5 + ways[i][1], sides >> i & 1);
        press.carve(1, 7 + ways[i][0], 5 + ways[i][1], 1);
      }
      press.carve(0, 6, 4, 1);
      press.carve(0, 8, 6, 1);
      press.print(1);
      edge.same("wear with neighbors " + sides, press.cell(7, 5, 3), 5 - Integer.bitCount(sides));
    }
    Press apart = new Press();
    apart.carve(0, 7, 5, 1);
    apart.print(1);
    edge.same("a cell that does not print has no wear", apart.cell(8, 5, 3) + apart.cell(0, 0, 3), 0);
    apart.set(3, 4);
    apart.carve(0, 8, 5, 1);
    apart.print(1);
    edge.same("a worn neighbor is none", apart.cell(8, 5, 3), 5);
    edge.same("a worn cell wears no more", apart.cell(7, 5, 3), 5);
  }

  private void wearAtEdges() {
    edge.says("Prints", "outside of the block there is none).");
    Press press = full();
    press.print(1);
    for (int i = 0; i < 192; i++) {
      int x = i % 16;
      int y = i / 16;
      int outside = (x == 0 || x == 15 ? 1 : 0) + (y == 0 || y == 11 ? 1 : 0);
      edge.same("wear in a full block at " + x + ", " + y, press.cell(x, y, 3), 1 + outside);
    }
    Press ends = new Press();
    ends.carve(0, 15, 4, 1);
    ends.carve(0, 0, 5, 1);
    ends.carve(0, 3, 0, 1);
    ends.carve(0, 3, 11, 1);
    ends.print(1);
    edge.same("a row's end, and the next row's beginning", ends.cell(15, 4, 3) + ends.cell(0, 5, 3), 10);
    edge.same("the first row, and the last one", ends.cell(3, 0, 3) + ends.cell(3, 11, 3), 10);
  }

  private void wearAsAheadOfStep() {
    edge.says("Prints", "(all cells are looked at as they are ahead of this step;");
    // Two cells: the left one is worn by this print, and still counts for the right one, and the other way round.
    for (int older = 0; older <= 1; older++) {
      Press press = new Press();
      press.set(3, 8);
      press.carve(0, 7 + older, 5, 1);
      press.print(1);
      press.carve(0, 8 - older, 5, 1);
      press.print(1);
      edge.same("the older one", press.cell(7 + older, 5, 3), 9);
      edge.same("it is worn by this print", press.cell(7 + older, 5, 4), 1);
      edge.same("the other one's wear with it", press.cell(8 - older, 5, 3), 4);
      press.print(1);
      edge.same("the other one's wear without it", press.cell(8 - older, 5, 3), 9);
      Press upright = new Press();
      upright.set(3, 8);
      upright.carve(0, 7, 5 + older, 1);
      upright.print(1);
      upright.carve(0, 7, 6 - older, 1);
      upright.print(2);
      edge.same("the same above each other", upright.cell(7, 6 - older, 3), 9);
    }
  }

  private void dampAtLeastZero() {
    edge.says("Prints", "3. The damp becomes less by the drying, 0 to 10 (at first 2), but at least 0.");
    edge.same("the drying at first", new Press().count(5), 2);
    int[][] due = {{50, 2, 48}, {3, 2, 1}, {2, 2, 0}, {1, 2, 0}, {0, 2, 0}, {11, 10, 1}, {10, 10, 0}, {9, 10, 0}, {0, 10, 0},
        {100, 10, 90}, {100, 0, 100}, {0, 0, 0}, {1, 1, 0}};
    for (int[] one : due) {
      Press press = new Press();
      press.set(0, one[0]);
      press.set(4, one[1]);
      press.print(1);
      edge.same("damp " + one[0] + " less " + one[1], press.count(1), one[2]);
      press.print(100);
      edge.same("behind many prints", press.count(1), one[1] == 0 ? one[0] : 0);
      edge.same("the drying stays", press.count(5), one[1]);
    }
  }

  private void setPinsArguments() {
    edge.says("Promise 6", "Sets the pins. This is an action.");
    Press press = new Press();
    press.setPins(0, 0);
    edge.same("pins that stay are an action, too", press.count(18), 1);
    edge.says("Promise 6", "`px`: -4 to 4");
    edge.range(-4, 4, (busy, px) -> busy.setPins(px, 0));
    edge.says("Promise 6", "`py`: -4 to 4");
    edge.range(-4, 4, (busy, py) -> busy.setPins(0, py));
    press.setPins(-4, 4);
    edge.same("the least px", press.count(6), -4);
    edge.same("the greatest py", press.count(7), 4);
    press.setPins(4, -4);
    edge.same("the greatest px", press.count(6), 4);
    edge.same("the least py", press.count(7), -4);
  }

  private void setPinsAnswers() {
    edge.says("Promise 6", "Returns the gaps that there are with them; INVALID_ARGUMENT if an argument is out of range.");
    Press press = new Press();
    edge.same("no gaps in a white picture", press.setPins(4, 4), 0);
    press.paint(0, 0, 16, 12, 1);
    edge.same("all are gaps without blocks", press.setPins(4, 4), 192);
    press.cut(0);
    edge.same("none with the pins at 0", press.setPins(0, 0), 0);
    edge.same("those at the edge", press.setPins(-4, 4), 192 - 12 * 8);
    press.set(0, 100);
    press.set(1, 4);
    edge.same("the drift of the damp counts", press.setPins(-4, 0), 0);
    edge.same("as far as can be", press.setPins(4, 0), 192 - 8 * 12);
    press.paint(0, 0, 16, 12, 0);
    edge.same("no spills are counted", press.setPins(0, 0), 0);
    Press worn = Checks.framed(0);
    worn.set(3, 3);
    worn.print(1);
    edge.same("wear as great as the hardness makes no gaps", worn.setPins(0, 0), 0);
    worn.set(3, 2);
    edge.same("worn lines are gaps", worn.setPins(0, 0), 18);
    worn.plug(3, 3);
    edge.same("one less when it is plugged", worn.setPins(0, 0), 17);
    worn.cut(0);
    edge.same("none behind a cut", worn.setPins(0, 0), 0);
    worn.carve(0, 3, 3, 0);
    edge.same("a line that is carved away", worn.setPins(0, 0), 1);
  }

  private void setArguments() {
    edge.says("Promise 7", "Sets a setting. This is an action.");
    Press press = new Press();
    press.set(4, 2);
    edge.same("a setting that stays is an action, too", press.count(18), 1);
    edge.says("Promise 7", "`what`: 0 the damp, 1 kx, 2 ky, 3 the hardness, 4 the drying");
    edge.range(0, 4, (busy, what) -> busy.set(what, 1));
    for (int what = 0; what <= 4; what++) {
      Press one = new Press();
      one.set(what, 3);
      for (int other = 1; other <= 5; other++) {
        edge.same("setting " + other, one.count(other), other == what + 1 ? 3 : new Press().count(other));
      }
    }
  }

  private void setValues() {
    edge.says("Promise 7", "`value`: in its range");
    edge.range(0, 100, (press, damp) -> press.set(0, damp));
    edge.range(-4, 4, (press, kx) -> press.set(1, kx));
    edge.range(-4, 4, (press, ky) -> press.set(2, ky));
    edge.range(1, 1000, (press, hardness) -> press.set(3, hardness));
    edge.range(0, 10, (press, drying) -> press.set(4, drying));
  }

  private void setAnswers() {
    edge.says("Promise 7", "Returns the previous value; INVALID_ARGUMENT if an argument is out of range.");
    int[][] values = {{50, 0, 100, 1}, {1, -4, 4, 0}, {0, -4, 4, 1}, {40, 1, 1000, 2}, {2, 0, 10, 1}};
    for (int what = 0; what <= 4; what++) {
      Press press = new Press();
      for (int i = 1; i < 4; i++) {
        edge.same("what setting " + what + " was", press.set(what, values[what][i]), values[what][i - 1]);
        edge.same("what it is then", press.count(what + 1), values[what][i]);
      }
    }
    Press dried = new Press();
    dried.print(1);
    edge.same("the damp that a print left", dried.set(0, 3), 48);
  }

  private void printArguments() {
    edge.says("Promise 8", "`prints`: 1 to 100");
    edge.range(1, 100, Press::print);
    Press press = new Press();
    press.print(100);
    edge.same("the greatest number", press.count(0), 100);
    press.print(1);
    edge.same("the least number", press.count(0), 101);
  }

  private void printAnswers() {
    edge.says("Promise 8", "Returns the gaps of all these prints together; INVALID_ARGUMENT if prints is out of range;");
    Press all = new Press();
    all.paint(0, 0, 16, 12, 1);
    edge.same("all cells in each of a hundred prints", all.print(100), 19200);
    edge.same("none in a white picture", new Press().print(100), 0);
    // A lone line of hardness 40 is worn behind nine prints.
    Press press = lone(40);
    edge.same("no gaps in nine prints", press.print(9), 0);
    edge.same("a gap in each of the next", press.print(3), 3);
    Press once = lone(40);
    edge.same("twelve prints at once", once.print(12), 3);
    // Colour that leaves its place when the damp is 0: sx is -1 then, ahead of that 0.
    Press drift = new Press();
    drift.paint(5, 5, 1, 1, 1);
    drift.cut(0);
    edge.same("no gaps until the damp is 0", drift.print(25), 0);
    edge.same("gaps from then on", drift.print(10), 10);
    drift.undo();
    drift.undo();
    edge.same("all at once", drift.print(35), 10);
  }

  private void printLimit() {
    edge.says("Promise 8", "CAPACITY_EXCEEDED if there would be more than 5000 prints in all.");
    Press press = new Press();
    for (int i = 0; i < 49; i++) {
      press.print(100);
    }
    edge.same("4900 and a hundred are not too many", press.print(100), 0);
    edge.same("5000 prints", press.count(0), 5000);
    edge.refused("one more", press, Checks.CAPACITY, () -> press.print(1));
    edge.refused("a hundred more", press, Checks.CAPACITY, () -> press.print(100));
    edge.refused("a number out of range comes first", press, Checks.INVALID, () -> press.print(0));
    edge.refused("a number far out of range comes first", press, Checks.INVALID, () -> press.print(Integer.MAX_VALUE));
    press.undo();
    press.print(1);
    edge.refused("4901 and a hundred", press, Checks.CAPACITY, () -> press.print(100));
    edge.same("4901 and ninety-nine", press.print(99), 0);
    press.undo();
    press.undo();
    press.print(99);
    edge.refused("4999 and two", press, Checks.CAPACITY, () -> press.print(2));
    edge.same("4999 and one", press.print(1), 0);
    edge.same("the number of the latest", press.proof(0, 0), 5000);
  }

  private void printIsOneAction() {
    edge.says("Promise 8", "Makes prints. This is one action.");
    Press press = Checks.framed(0);
    press.print(100);
    edge.same("one state", press.count(18), 4);
    press.undo();
    edge.same("no print is left", press.count(0), 0);
    edge.same("no proof is left", press.count(16), 0);
    edge.same("no wear is left", press.cell(3, 3, 3), 0);
    edge.same("the damp is back", press.count(1), 50);
  }
}
