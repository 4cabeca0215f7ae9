/** The boundary cases of picture and blocks, and of promises 1 to 5. */
final class PictureEdges {
  private final Edge edge;

  PictureEdges(Edge edge) {
    this.edge = edge;
  }

  void check() {
    pictureSize();
    pictureKinds();
    neighbors();
    blocksAtFirst();
    blocksAsLargeAsPicture();
    cutLineBlock();
    cutColourBlockSteps();
    cutColourBlockThroughLinesAlone();
    newObject();
    paintPlaces();
    paintSizes();
    paintKinds();
    paintAnswers();
    cutTraps();
    cutAnswers();
    carveArguments();
    carveAnswers();
    carveWear();
    plugArguments();
    plugWear();
    plugAnswers();
    plugNotWorn();
  }

  private static Press filled(int kind) {
    Press press = new Press();
    press.paint(0, 0, 16, 12, kind);
    return press;
  }

  private static Press onePainted(int kind, int x, int y) {
    Press press = new Press();
    press.paint(x, y, 1, 1, kind);
    return press;
  }

  private void pictureSize() {
    edge.says("Picture", "The picture has 16 columns (x, 0 to 15) and 12 rows (y, 0 to 11).");
    Press press = filled(1);
    edge.same("cells of a full picture", press.count(11), 16 * 12);
    edge.same("the first cell", press.cell(0, 0, 0), 1);
    edge.same("the last cell", press.cell(15, 11, 0), 1);
    edge.same("a seventeenth column", press.cell(16, 0, 0), Checks.INVALID);
    edge.same("a thirteenth row", press.cell(0, 12, 0), Checks.INVALID);
    edge.same("a column ahead of the first", press.cell(-1, 0, 0), Checks.INVALID);
    edge.same("a row ahead of the first", press.cell(0, -1, 0), Checks.INVALID);
  }

  private void pictureKinds() {
    edge.says("Picture", "Each cell is 0 white, 1 colour or 2 line; at first all are white.");
    Press press = new Press();
    edge.same("white cells at first", press.count(10), 192);
    press.paint(0, 0, 1, 1, 1);
    press.paint(1, 0, 1, 1, 2);
    edge.same("colour", press.cell(0, 0, 0), 1);
    edge.same("a line", press.cell(1, 0, 0), 2);
    edge.same("white", press.cell(2, 0, 0), 0);
    press.paint(0, 0, 1, 1, 2);
    press.paint(1, 0, 1, 1, 1);
    edge.same("a line over colour is no colour", press.count(11), 1);
    edge.same("colour over a line is no line", press.count(12), 1);
  }

  private void neighbors() {
    edge.says("Picture", "Two cells are neighbors if they have a side in common.");
    edge.same("four sides amid the picture", sidesOf(7, 6), 4);
    edge.same("two sides in the first corner", sidesOf(0, 0), 2);
    edge.same("two sides in the last corner", sidesOf(15, 11), 2);
    edge.same("three sides at the right edge, none of them in the next row's beginning", sidesOf(15, 6), 3);
    edge.same("three sides at the left edge, none of them at the end of the row ahead", sidesOf(0, 6), 3);
    edge.same("three sides at the upper edge, none of them in the last row", sidesOf(7, 0), 3);
    edge.same("three sides at the lower edge, none of them in the first row", sidesOf(7, 11), 3);
    Press press = onePainted(1, 7, 6);
    press.paint(6, 5, 1, 1, 2);
    press.paint(8, 5, 1, 1, 2);
    press.paint(6, 7, 1, 1, 2);
    press.paint(8, 7, 1, 1, 2);
    edge.same("a corner in common is not enough", press.cut(4), 1);
  }

  /** How many cells a trap of one step reaches from a cell amid lines. */
  private static int sidesOf(int x, int y) {
    Press press = filled(2);
    press.paint(x, y, 1, 1, 1);
    return press.cut(1) - 1;
  }

  private void blocksAtFirst() {
    edge.says("Blocks", "each cell of a block prints or does not (at first).");
    Press press = filled(2);
    edge.same("the line block prints nowhere at first", press.count(13), 0);
    edge.same("the colour block prints nowhere at first", press.count(14), 0);
    edge.same("nothing is printed", press.printed(7, 6, 0, 0), 0);
  }

  private void blocksAsLargeAsPicture() {
    edge.says("Blocks", "There are a line block and a colour block, both as large as the picture;");
    edge.says("Blocks", "Cells of blocks can also be carved one by one.");
    for (int block = 0; block <= 1; block++) {
      Press press = new Press();
      int carved = 0;
      for (int i = 0; i < 192; i++) {
        press.carve(block, i % 16, i / 16, 1);
        carved += press.cell(i % 16, i / 16, 1 + block);
      }
      edge.same("cells of block " + block + " that were carved", carved, 192);
      edge.same("cells of block " + block, press.count(13 + block), 192);
      edge.same("cells of the other block", press.count(14 - block), 0);
      edge.same("a cell behind the last column", press.carve(block, 16, 0, 1), Checks.INVALID);
      edge.same("a cell behind the last row", press.carve(block, 0, 12, 1), Checks.INVALID);
    }
  }

  private void cutLineBlock() {
    edge.says("Blocks", "To cut the blocks with a trap t from 0 to 4 means: "
        + "the line block prints in just the cells of the picture that are lines, and has no wear;");
    for (int trap = 0; trap <= 4; trap++) {
      Press press = Checks.framed(0);
      press.carve(0, 0, 0, 1);
      press.carve(0, 3, 3, 0);
      press.carve(0, 5, 5, 1);
      press.set(3, 3);
      press.print(1);
      edge.same("worn cells ahead of the cut", press.count(15), 4);
      press.cut(trap);
      edge.same("cells of the line block with trap " + trap, press.count(13), 18);
      edge.same("a line that was carved away", press.cell(3, 3, 1), 1);
      edge.same("a white cell that was carved", press.cell(0, 0, 1), 0);
      edge.same("a colour cell that was carved", press.cell(5, 5, 1), 0);
      edge.same("worn cells", press.count(15), 0);
      edge.same("wear of a line", press.cell(8, 7, 3) + press.cell(4, 3, 3), 0);
      press.carve(1, 0, 0, 1);
      press.set(3, 1);
      edge.same("no wear is left", press.count(15), 0);
    }
    Press white = filled(0);
    white.carve(0, 15, 11, 1);
    white.cut(0);
    edge.same("a picture without lines", white.count(13), 0);
    Press full = filled(2);
    full.cut(4);
    edge.same("a picture of lines alone", full.count(13), 192);
  }

  private void cutColourBlockSteps() {
    edge.says("Blocks", "the colour block prints in all cells that are colour, and in all cells that are lines and "
        + "can be reached from a colour cell in at most t steps, each from a cell to a neighbor, each step to a line.");
    int[][] ways = {{1, 0}, {-1, 0}, {0, 1}, {0, -1}};
    for (int[] way : ways) {
      for (int trap = 0; trap <= 4; trap++) {
        Press press = filled(2);
        press.paint(7, 5, 1, 1, 1);
        press.cut(trap);
        edge.same(trap + " steps with trap " + trap, press.cell(7 + trap * way[0], 5 + trap * way[1], 2), 1);
        edge.same(trap + 1 + " steps with trap " + trap, press.cell(7 + (trap + 1) * way[0], 5 + (trap + 1) * way[1], 2), 0);
      }
    }
    Press carved = filled(1);
    carved.paint(3, 3, 1, 1, 0);
    carved.carve(1, 3, 3, 1);
    edge.same("all colour prints, white does not, whatever was carved", carved.cut(0), 191);
    Press edges = filled(2);
    edges.paint(0, 0, 1, 1, 1);
    edges.paint(15, 11, 1, 1, 1);
    edge.same("two corners of the picture with four steps", edges.cut(4), 15 + 15);
    edge.same("the right end of the first row", edges.cell(15, 0, 2), 0);
    edge.same("the left end of the last row", edges.cell(0, 11, 2), 0);
  }

  private void cutColourBlockThroughLinesAlone() {
    edge.says("Blocks", "each step to a line.");
    // Column by column: colour, white, line; the line is two steps away, but one of them is to white.
    Press white = onePainted(1, 3, 3);
    white.paint(5, 3, 1, 1, 2);
    edge.same("no step over white", white.cut(4), 1);
    // A bow of four lines around white, and a fifth one.
    Press bow = onePainted(1, 3, 3);
    bow.paint(3, 2, 3, 1, 2);
    bow.paint(5, 3, 1, 1, 2);
    edge.same("the bow's end is the fourth step", bow.cut(3), 4);
    edge.same("the bow's end is reached in four", bow.cut(4), 5);
    bow.paint(5, 4, 1, 1, 2);
    edge.same("a fifth step is not taken", bow.cut(4), 5);
    bow.paint(4, 3, 1, 1, 1);
    edge.same("the nearest colour counts", bow.cut(1), 5);
    edge.same("the end is two steps from it", bow.cut(2), 7);
  }

  private void newObject() {
    edge.says("Promise 1", "Creates a white picture and blocks that print nowhere, with an empty text.");
    Press press = new Press();
    edge.same("white cells", press.count(10), 192);
    edge.same("cells of the blocks that print", press.count(13) + press.count(14), 0);
    edge.same("the text's length", press.count(19), 0);
    edge.same("proofs, snapshots and states", press.count(16) + press.count(17) + press.count(18), 0);
    edge.same("the prints", press.count(0), 0);
    edge.refused("undo without a state", press, Checks.ILLEGAL, press::undo);
    edge.same("an empty text is read", press.load(), 0);
  }

  private void paintPlaces() {
    edge.says("Promise 2", "Paints an area of the picture. This is an action.");
    edge.same("it is recorded", painted(3, 3, 2, 2, 2).count(18), 1);
    edge.says("Promise 2", "`x`: 0 to 15, its left column");
    edge.range(0, 15, (press, x) -> press.paint(x, 0, 1, 1, 2));
    edge.same("the first column", painted(0, 5, 1, 1, 2).cell(0, 5, 0), 2);
    edge.same("the last column", painted(15, 5, 1, 1, 2).cell(15, 5, 0), 2);
    edge.says("Promise 2", "`y`: 0 to 11, its upper row");
    edge.range(0, 11, (press, y) -> press.paint(0, y, 1, 1, 2));
    edge.same("the first row", painted(5, 0, 1, 1, 2).cell(5, 0, 0), 2);
    edge.same("the last row", painted(5, 11, 1, 1, 2).cell(5, 11, 0), 2);
  }

  private static Press painted(int x, int y, int width, int height, int kind) {
    Press press = new Press();
    press.paint(x, y, width, height, kind);
    return press;
  }

  private void paintSizes() {
    edge.says("Promise 2", "`width`: 1 to 16 - x");
    for (int column = 0; column <= 15; column++) {
      int x = column;
      Press press = new Press();
      edge.same("the greatest width at " + x, press.paint(x, 11, 16 - x, 1, 2), 16 - x);
      edge.same("it goes to the last column", press.cell(15, 11, 0), 2);
      edge.same("the least width at " + x, press.paint(x, 0, 1, 1, 2), 1);
      edge.refuses(new int[] {17 - x, 0}, (busy, width) -> busy.paint(x, 0, width, 1, 2));
    }
    edge.range(1, 16, (press, width) -> press.paint(0, 0, width, 1, 2));
    edge.range(1, 1, (press, width) -> press.paint(15, 0, width, 1, 2));
    edge.says("Promise 2", "`height`: 1 to 12 - y");
    for (int row = 0; row <= 11; row++) {
      int y = row;
      Press press = new Press();
      edge.same("the greatest height at " + y, press.paint(15, y, 1, 12 - y, 2), 12 - y);
      edge.same("it goes to the last row", press.cell(15, 11, 0), 2);
      edge.same("the least height at " + y, press.paint(0, y, 1, 1, 2), 1);
      edge.refuses(new int[] {13 - y, 0}, (busy, height) -> busy.paint(0, y, 1, height, 2));
    }
    edge.range(1, 12, (press, height) -> press.paint(0, 0, 1, height, 2));
    edge.range(1, 1, (press, height) -> press.paint(0, 11, 1, height, 2));
  }

  private void paintKinds() {
    edge.says("Promise 2", "`kind`: 0 to 2");
    edge.range(0, 2, (press, kind) -> press.paint(0, 0, 16, 12, kind));
    for (int kind = 0; kind <= 2; kind++) {
      edge.same("cells of kind " + kind, filled(kind).count(10 + kind), 192);
    }
  }

  private void paintAnswers() {
    edge.says("Promise 2", "Returns the number of cells that changed; INVALID_ARGUMENT if an argument is out of range.");
    Press press = new Press();
    edge.same("none changes", press.paint(0, 0, 16, 12, 0), 0);
    edge.same("all change", press.paint(0, 0, 16, 12, 2), 192);
    edge.same("none changes again", press.paint(0, 0, 16, 12, 2), 0);
    edge.same("one of four changes to colour", press.paint(3, 3, 1, 1, 1), 1);
    edge.same("three of four change to colour", press.paint(3, 3, 2, 2, 1), 3);
    edge.same("the last cell changes", press.paint(15, 11, 1, 1, 0), 1);
    edge.same("calls without a change are actions, too", press.count(18), 5);
  }

  private void cutTraps() {
    edge.says("Promise 3", "Cuts the blocks. This is an action.");
    Press press = filled(2);
    press.cut(0);
    press.cut(0);
    edge.same("a cut that changes nothing is recorded, too", press.count(18), 3);
    edge.says("Promise 3", "`trap`: 0 to 4");
    edge.range(0, 4, Press::cut);
  }

  private void cutAnswers() {
    edge.says("Promise 3", "Returns the number of cells in which the colour block prints then; "
        + "INVALID_ARGUMENT if trap is out of range.");
    edge.same("a white picture", new Press().cut(4), 0);
    edge.same("lines alone", filled(2).cut(4), 0);
    edge.same("colour alone", filled(1).cut(0), 192);
    Press press = filled(2);
    press.paint(7, 5, 1, 1, 1);
    int[] due = {1, 5, 13, 25, 41};
    for (int trap = 0; trap <= 4; trap++) {
      edge.same("colour amid lines with trap " + trap, press.cut(trap), due[trap]);
    }
  }

  private void carveArguments() {
    edge.says("Promise 4", "`block`: 0 the line block, 1 the colour block");
    edge.range(0, 1, (press, block) -> press.carve(block, 0, 0, 1));
    edge.says("Promise 4", "`x`: 0 to 15");
    edge.range(0, 15, (press, x) -> press.carve(0, x, 11, 0));
    edge.range(0, 15, (press, x) -> press.carve(1, x, 11, 1));
    edge.says("Promise 4", "`y`: 0 to 11");
    edge.range(0, 11, (press, y) -> press.carve(0, 0, y, 0));
    edge.range(0, 11, (press, y) -> press.carve(1, 0, y, 1));
    edge.says("Promise 4", "`is`: 1 if it shall print, 0 if it shall not");
    edge.range(0, 1, (press, is) -> press.carve(0, 3, 3, is));
    edge.range(0, 1, (press, is) -> press.carve(1, 4, 4, is));
  }

  private void carveAnswers() {
    edge.says("Promise 4", "Returns 1 if it printed before (also if it was worn), otherwise 0; "
        + "INVALID_ARGUMENT if an argument is out of range.");
    for (int is = 0; is <= 1; is++) {
      Press press = Checks.framed(0);
      press.set(3, 2);
      press.print(1);
      edge.same("it was worn", press.cell(3, 3, 4), 1);
      edge.same("a worn cell", press.carve(0, 3, 3, is), 1);
      edge.same("behind that", press.carve(0, 3, 3, is), is);
      edge.same("a line that only the line block has", press.carve(1, 3, 3, is), 0);
      edge.same("colour that only the colour block has", press.carve(0, 4, 4, is), 0);
      edge.same("a cell of the colour block", press.carve(1, 4, 4, is), 1);
      edge.same("the last cell", press.carve(1, 15, 11, is), 0);
      edge.same("all six are recorded, five are kept", press.count(18), 5);
    }
  }

  private void carveWear() {
    edge.says("Promise 4", "Carves a cell of a block; a cell of the line block has no wear then. This is an action.");
    for (int is = 0; is <= 1; is++) {
      Press press = Checks.framed(0);
      press.print(1);
      edge.same("its wear", press.cell(8, 7, 3), 3);
      press.carve(1, 8, 7, is);
      edge.same("the colour block is another thing", press.cell(8, 7, 3), 3);
      press.carve(0, 8, 7, is);
      edge.same("no wear", press.cell(8, 7, 3), 0);
      press.carve(0, 8, 7, 1);
      edge.same("no wear when it prints again", press.cell(8, 7, 3), 0);
      edge.same("its neighbor's wear stays", press.cell(7, 7, 3), 3);
    }
    Press same = new Press();
    same.carve(1, 0, 0, 0);
    edge.same("carving away what does not print is an action, too", same.count(18), 1);
  }

  private static Press worn() {
    Press press = Checks.framed(1);
    press.set(3, 2);
    press.print(1);
    return press;
  }

  private void plugArguments() {
    edge.says("Promise 5", "`x`: 0 to 15");
    edge.range(0, 15, (press, x) -> press.plug(x, 11));
    edge.says("Promise 5", "`y`: 0 to 11");
    edge.range(0, 11, (press, y) -> press.plug(0, y));
    for (int corner = 0; corner < 4; corner++) {
      Press press = new Press();
      press.carve(0, corner % 2 * 15, corner / 2 * 11, 1);
      press.print(9);
      edge.same("a worn corner", press.plug(corner % 2 * 15, corner / 2 * 11), 0);
    }
  }

  private void plugWear() {
    edge.says("Promise 5", "Plugs a worn cell of the line block: it prints, and has no wear then. This is an action.");
    Press press = worn();
    press.plug(3, 3);
    edge.same("it prints", press.cell(3, 3, 1), 1);
    edge.same("it has no wear", press.cell(3, 3, 3), 0);
    edge.same("a line is printed", press.printed(3, 3, 0, 0), 2);
    edge.same("its neighbor stays worn", press.cell(4, 3, 4), 1);
    edge.same("the colour block stays", press.cell(3, 3, 2), 0);
    press.undo();
    edge.same("undone", press.cell(3, 3, 4), 1);
  }

  private void plugAnswers() {
    edge.says("Promise 5", "Returns the number of worn cells that are left; "
        + "INVALID_ARGUMENT if an argument is out of range; ILLEGAL_STATE if the cell is not worn.");
    Press press = worn();
    int left = 18;
    for (int i = 0; i < 30; i++) {
      int x = 3 + i % 6;
      int y = 3 + i / 6;
      if (press.cell(x, y, 4) == 1) {
        left--;
        edge.same("worn cells left", press.plug(x, y), left);
      }
    }
    edge.same("all are plugged", left, 0);
    edge.refused("nothing is left to plug", press, Checks.ILLEGAL, () -> press.plug(3, 3));
    edge.refused("a cell outside comes first", press, Checks.INVALID, () -> press.plug(16, 3));
  }

  private void plugNotWorn() {
    edge.says("Promise 5", "ILLEGAL_STATE if the cell is not worn.");
    Press press = worn();
    edge.refused("a cell that does not print", press, Checks.ILLEGAL, () -> press.plug(0, 0));
    edge.refused("a colour cell", press, Checks.ILLEGAL, () -> press.plug(4, 4));
    press.set(3, 3);
    edge.refused("wear as great as the hardness", press, Checks.ILLEGAL, () -> press.plug(3, 3));
    press.set(3, 2);
    press.carve(0, 3, 3, 1);
    edge.refused("a worn cell that was carved anew", press, Checks.ILLEGAL, () -> press.plug(3, 3));
    press.carve(0, 4, 3, 0);
    edge.refused("a worn cell that was carved away", press, Checks.ILLEGAL, () -> press.plug(4, 3));
    press.plug(5, 3);
    edge.refused("a cell that was plugged", press, Checks.ILLEGAL, () -> press.plug(5, 3));
    edge.same("the next one is worn", press.plug(6, 3), 14);
    edge.refusedWhenBusy("a cell that does not print, with a full history", Checks.ILLEGAL, busy -> busy.plug(15, 11));
  }
}
