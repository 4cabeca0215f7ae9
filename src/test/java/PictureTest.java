/** Promises 2 to 5: paint, cut, carve and plug. */
public final class PictureTest {
  private static final Checks CHECKS = new Checks("PictureTest");

  public static void main(String[] args) {
    promise02Paint();
    promise02PaintRefused();
    promise03Cut();
    promise03CutTraps();
    promise03CutRefused();
    promise04Carve();
    promise04CarveRefused();
    promise05Plug();
    promise05PlugRefused();
    CHECKS.end();
  }

  private static void promise02Paint() {
    Press press = new Press();
    CHECKS.same("paint of white with white", press.paint(0, 0, 16, 12, 0), 0);
    CHECKS.same("an action without a change is recorded", press.count(18), 1);
    CHECKS.same("paint of the whole picture", press.paint(0, 0, 16, 12, 1), 192);
    CHECKS.same("paint of the last cell", press.paint(15, 11, 1, 1, 2), 1);
    CHECKS.same("paint of the last column", press.paint(15, 0, 1, 12, 2), 11);
    CHECKS.same("paint of the last row", press.paint(0, 11, 16, 1, 0), 16);
    CHECKS.same("white", press.count(10), 16);
    CHECKS.same("colour", press.count(11), 165);
    CHECKS.same("lines", press.count(12), 11);
    CHECKS.same("paint inside", press.paint(2, 3, 4, 2, 2), 8);
    CHECKS.same("left column", press.cell(2, 3, 0), 2);
    CHECKS.same("right column", press.cell(5, 4, 0), 2);
    CHECKS.same("left of it", press.cell(1, 3, 0), 1);
    CHECKS.same("right of it", press.cell(6, 3, 0), 1);
    CHECKS.same("above it", press.cell(2, 2, 0), 1);
    CHECKS.same("below it", press.cell(2, 5, 0), 1);
    CHECKS.same("paint over a part", press.paint(5, 4, 2, 2, 2), 3);
    CHECKS.same("the blocks stay", press.count(13) + press.count(14), 0);
  }

  private static void promise02PaintRefused() {
    Press press = Checks.framed(1);
    CHECKS.invalid("x", press, new int[] {-1, 16, Integer.MIN_VALUE, Integer.MAX_VALUE}, v -> press.paint(v, 0, 1, 1, 0));
    CHECKS.invalid("y", press, new int[] {-1, 12, Integer.MIN_VALUE, Integer.MAX_VALUE}, v -> press.paint(0, v, 1, 1, 0));
    CHECKS.invalid("width", press, new int[] {0, -1, 17, Integer.MAX_VALUE, Integer.MIN_VALUE}, v -> press.paint(0, 0, v, 1, 0));
    CHECKS.invalid("width at 5", press, new int[] {0, 12, 16}, v -> press.paint(5, 0, v, 1, 0));
    CHECKS.invalid("height", press, new int[] {0, -1, 13, Integer.MAX_VALUE, Integer.MIN_VALUE}, v -> press.paint(0, 0, 1, v, 0));
    CHECKS.invalid("height at 5", press, new int[] {0, 8, 12}, v -> press.paint(0, 5, 1, v, 0));
    CHECKS.invalid("kind", press, new int[] {-1, 3, Integer.MAX_VALUE}, v -> press.paint(0, 0, 16, 12, v));
  }

  private static void promise03Cut() {
    Press press = new Press();
    CHECKS.same("cut of a white picture", press.cut(4), 0);
    press.paint(0, 0, 3, 3, 2);
    press.carve(0, 10, 10, 1);
    press.carve(1, 10, 10, 1);
    CHECKS.same("cut without colour", press.cut(4), 0);
    CHECKS.same("lines are cut", press.count(13), 9);
    CHECKS.same("what was carved is gone", press.cell(10, 10, 1) + press.cell(10, 10, 2), 0);
    press.set(3, 1);
    press.print(1);
    CHECKS.same("worn ahead of the cut", press.count(15), 8);
    press.cut(0);
    CHECKS.same("worn behind the cut", press.count(15), 0);
    CHECKS.same("wear behind the cut", press.cell(0, 0, 3), 0);
    CHECKS.same("cut is recorded", press.count(18), 5);
  }

  private static void promise03CutTraps() {
    // One colour cell at the left end of a line that turns, and a gap in it.
    Press press = new Press();
    press.paint(0, 0, 1, 1, 1);
    press.paint(1, 0, 2, 1, 2);
    press.paint(2, 1, 1, 2, 2);
    press.paint(4, 0, 1, 1, 2);
    press.paint(15, 11, 1, 1, 2);
    int[] due = {1, 2, 3, 4, 5};
    for (int trap = 0; trap <= 4; trap++) {
      CHECKS.same("cut(" + trap + ")", press.cut(trap), due[trap]);
      CHECKS.same("count(14)", press.count(14), due[trap]);
      CHECKS.same("count(13)", press.count(13), 6);
    }
    CHECKS.same("the fourth step", press.cell(2, 2, 2), 1);
    CHECKS.same("behind the gap", press.cell(4, 0, 2), 0);
    // Steps go up, down, left and right, never slanting, and not into white.
    press.paint(0, 0, 16, 12, 2);
    press.paint(7, 6, 1, 1, 1);
    int[] diamonds = {1, 5, 13, 25, 41};
    for (int trap = 0; trap <= 4; trap++) {
      CHECKS.same("diamond of " + trap, press.cut(trap), diamonds[trap]);
    }
    CHECKS.same("four steps up", press.cell(7, 2, 2), 1);
    CHECKS.same("four steps down", press.cell(7, 10, 2), 1);
    CHECKS.same("four steps left", press.cell(3, 6, 2), 1);
    CHECKS.same("four steps right", press.cell(11, 6, 2), 1);
    CHECKS.same("four slanting steps", press.cell(9, 8, 2), 1);
    CHECKS.same("five steps", press.cell(10, 8, 2), 0);
    // A row's end is no neighbor of the next row's beginning.
    press.paint(0, 0, 16, 12, 2);
    press.paint(15, 5, 1, 1, 1);
    press.cut(1);
    CHECKS.same("at the edge", press.count(14), 4);
    CHECKS.same("the next row's beginning", press.cell(0, 6, 2) + press.cell(0, 5, 2), 0);
  }

  private static void promise03CutRefused() {
    Press press = Checks.framed(1);
    CHECKS.invalid("trap", press, new int[] {-1, 5, Integer.MIN_VALUE, Integer.MAX_VALUE}, press::cut);
  }

  private static void promise04Carve() {
    Press press = new Press();
    CHECKS.same("carve of the line block", press.carve(0, 15, 11, 1), 0);
    CHECKS.same("it prints then", press.cell(15, 11, 1), 1);
    CHECKS.same("the colour block does not", press.cell(15, 11, 2), 0);
    CHECKS.same("carve of the colour block", press.carve(1, 0, 0, 1), 0);
    CHECKS.same("it prints then", press.cell(0, 0, 2), 1);
    CHECKS.same("the line block does not", press.cell(0, 0, 1), 0);
    CHECKS.same("the picture stays", press.count(10), 192);
    press.set(3, 1);
    press.print(1);
    CHECKS.same("a lone cell's wear", press.cell(15, 11, 3), 5);
    CHECKS.same("carve of a worn cell", press.carve(0, 15, 11, 1), 1);
    CHECKS.same("it has no wear then", press.cell(15, 11, 3), 0);
    press.print(1);
    CHECKS.same("a worn cell carved away", press.carve(0, 15, 11, 0), 1);
    CHECKS.same("it has no wear then", press.cell(15, 11, 3) + press.cell(15, 11, 4), 0);
    CHECKS.same("carve away again", press.carve(0, 15, 11, 0), 0);
    CHECKS.same("carve the colour block again", press.carve(1, 0, 0, 1), 1);
    CHECKS.same("carve the colour block away", press.carve(1, 0, 0, 0), 1);
    CHECKS.same("carve the colour block away again", press.carve(1, 0, 0, 0), 0);
    CHECKS.same("carve is recorded", press.count(18), 5);
    // Carving the colour block leaves the wear of the line block.
    press.set(3, 40);
    press.carve(0, 3, 3, 1);
    press.print(1);
    press.carve(1, 3, 3, 1);
    CHECKS.same("wear under carved colour", press.cell(3, 3, 3), 5);
  }

  private static void promise04CarveRefused() {
    Press press = Checks.framed(1);
    press.print(2);
    CHECKS.invalid("block", press, new int[] {-1, 2, Integer.MAX_VALUE}, v -> press.carve(v, 3, 3, 0));
    CHECKS.invalid("x", press, new int[] {-1, 16, Integer.MIN_VALUE}, v -> press.carve(0, v, 3, 0));
    CHECKS.invalid("y", press, new int[] {-1, 12, Integer.MAX_VALUE}, v -> press.carve(1, 3, v, 0));
    CHECKS.invalid("is", press, new int[] {-1, 2, Integer.MAX_VALUE}, v -> press.carve(0, 3, 3, v));
  }

  private static void promise05Plug() {
    Press press = Checks.framed(1);
    press.set(3, 2);
    press.print(1);
    CHECKS.same("all lines are worn", press.count(15), 18);
    CHECKS.same("plug", press.plug(3, 3), 17);
    CHECKS.same("it prints", press.cell(3, 3, 1), 1);
    CHECKS.same("it has no wear", press.cell(3, 3, 3), 0);
    CHECKS.same("it is not worn", press.cell(3, 3, 4), 0);
    CHECKS.same("a line is printed", press.printed(3, 3, 8, 8), 2);
    CHECKS.same("plug again", press.plug(8, 7), 16);
    CHECKS.same("plug is recorded", press.count(18), 5);
    press.undo();
    CHECKS.same("undone", press.cell(8, 7, 4), 1);
    // A harder block makes worn cells whole again: then they can't be plugged.
    press.set(3, 1000);
    CHECKS.same("plug of a cell that is whole again", press.plug(8, 7), Checks.ILLEGAL);
    CHECKS.same("its wear stays", press.cell(8, 7, 3), 3);
  }

  private static void promise05PlugRefused() {
    Press press = Checks.framed(1);
    press.set(3, 3);
    press.print(1);
    CHECKS.same("wear as great as the hardness", press.cell(3, 3, 3), 3);
    CHECKS.same("is not worn", press.cell(3, 3, 4), 0);
    CHECKS.refused("plug of it", press, Checks.ILLEGAL, () -> press.plug(3, 3));
    press.cut(1);
    press.set(3, 2);
    CHECKS.refused("plug of a cell that is not worn", press, Checks.ILLEGAL, () -> press.plug(3, 3));
    press.print(1);
    CHECKS.refused("plug of a cell that does not print", press, Checks.ILLEGAL, () -> press.plug(0, 0));
    CHECKS.refused("plug of a colour cell", press, Checks.ILLEGAL, () -> press.plug(4, 4));
    CHECKS.invalid("x", press, new int[] {-1, 16, Integer.MIN_VALUE, Integer.MAX_VALUE}, v -> press.plug(v, 3));
    CHECKS.invalid("y", press, new int[] {-1, 12, Integer.MIN_VALUE, Integer.MAX_VALUE}, v -> press.plug(3, v));
  }
}
