/** Promises 19 to 24: faults, why, tolerance, trapFor, bestPins and printsLeft. */
public final class ReasonsTest {
  private static final Checks CHECKS = new Checks("ReasonsTest");

  public static void main(String[] args) {
    promise19Faults();
    promise19FaultsRefused();
    promise20Why();
    promise20WhyOrder();
    promise21Tolerance();
    promise22TrapFor();
    promise23BestPins();
    promise23BestPinsTies();
    promise24PrintsLeft();
    nothingChanges();
    CHECKS.end();
  }

  private static void promise19Faults() {
    Press press = Checks.framed(0);
    CHECKS.same("gaps without a shift", press.faults(0, 0, 0), 0);
    CHECKS.same("gaps one to the right", press.faults(1, 0, 0), 3);
    CHECKS.same("spills one to the right", press.faults(1, 0, 1), 0);
    CHECKS.same("spills two to the right", press.faults(2, 0, 1), 3);
    CHECKS.same("gaps eight to the right", press.faults(8, 0, 0), 12);
    CHECKS.same("spills eight to the right", press.faults(8, 0, 1), 12);
    CHECKS.same("spills eight up, all outside", press.faults(0, -8, 1), 0);
    CHECKS.same("lost lines", press.faults(8, 8, 2), 0);
    press.set(3, 2);
    press.print(1);
    CHECKS.same("gaps of worn lines", press.faults(0, 0, 0), 18);
    CHECKS.same("colour on worn lines is no gap", press.faults(1, 0, 0), 18);
    CHECKS.same("worn lines are lost", press.faults(1, 0, 2), 18);
    press.set(3, 3);
    CHECKS.same("they are back", press.faults(1, 0, 2), 0);
    press.carve(0, 3, 3, 0);
    CHECKS.same("a line that was carved away is lost", press.faults(-1, 0, 2), 1);
    press.carve(1, 0, 0, 1);
    press.carve(0, 0, 0, 1);
    CHECKS.same("colour on white is a spill, with a line or not", press.faults(0, 0, 1), 1);
  }

  private static void promise19FaultsRefused() {
    Press press = Checks.framed(0);
    CHECKS.invalid("sx", press, new int[] {-9, 9, Integer.MIN_VALUE, Integer.MAX_VALUE}, v -> press.faults(v, 0, 0));
    CHECKS.invalid("sy", press, new int[] {-9, 9, Integer.MIN_VALUE, Integer.MAX_VALUE}, v -> press.faults(0, v, 0));
    CHECKS.invalid("what", press, new int[] {-1, 3, Integer.MIN_VALUE, Integer.MAX_VALUE}, v -> press.faults(0, 0, v));
  }

  private static void promise20Why() {
    Press press = Checks.framed(1);
    CHECKS.same("a line", press.why(3, 3), 0);
    CHECKS.same("a line with colour", press.why(4, 3), 0);
    CHECKS.same("colour", press.why(4, 4), 0);
    CHECKS.same("nothing", press.why(0, 0), 0);
    press.setPins(2, 0);
    CHECKS.same("a colour cell without ink", press.why(4, 4), 2);
    CHECKS.same("colour on white", press.why(9, 4), 3);
    press.setPins(-1, 0);
    press.set(0, 100);
    CHECKS.same("the drift counts", press.why(4, 4), 0);
    CHECKS.invalid("x", press, new int[] {-1, 16, Integer.MIN_VALUE, Integer.MAX_VALUE}, v -> press.why(v, 0));
    CHECKS.invalid("y", press, new int[] {-1, 12, Integer.MIN_VALUE, Integer.MAX_VALUE}, v -> press.why(0, v));
  }

  private static void promise20WhyOrder() {
    Press press = new Press();
    // Columns: 0 white, 1 colour, 2 line; rows: 0 nothing, 1 colour, 2 a line, 3 both, 4 worn, 5 worn with colour.
    press.paint(1, 0, 1, 6, 1);
    press.paint(2, 0, 1, 6, 2);
    for (int x = 0; x < 3; x++) {
      press.carve(0, x, 4, 1);
      press.carve(0, x, 5, 1);
    }
    press.set(3, 1);
    press.print(1);
    for (int x = 0; x < 3; x++) {
      press.carve(0, x, 2, 1);
      press.carve(0, x, 3, 1);
      press.carve(1, x, 1, 1);
      press.carve(1, x, 3, 1);
      press.carve(1, x, 5, 1);
    }
    int[][] due = {{0, 2, 2}, {3, 0, 5}, {4, 4, 0}, {3, 4, 0}, {0, 1, 1}, {3, 0, 5}};
    for (int y = 0; y < 6; y++) {
      for (int x = 0; x < 3; x++) {
        CHECKS.same("why(" + x + ", " + y + ")", press.why(x, y), due[y][x]);
      }
    }
  }

  private static void promise21Tolerance() {
    Press white = new Press();
    CHECKS.same("a white picture", white.tolerance(), 4);
    white.paint(5, 5, 1, 1, 2);
    CHECKS.same("blocks that are not cut", white.tolerance(), Checks.NONE);
    white.cut(0);
    CHECKS.same("lines alone", white.tolerance(), 4);
    white.paint(6, 5, 1, 1, 1);
    white.cut(0);
    CHECKS.same("without a trap", white.tolerance(), 0);
    // A colour cell amid an ever wider square of the colour block.
    Press press = new Press();
    press.paint(7, 5, 1, 1, 1);
    for (int r = 0; r <= 5; r++) {
      for (int y = 5 - r; y <= 5 + r; y++) {
        for (int x = 7 - r; x <= 7 + r; x++) {
          press.carve(1, x, y, 1);
        }
      }
      CHECKS.same("a square of " + r, press.tolerance(), Math.min(r, 4));
    }
    press.carve(1, 10, 8, 0);
    CHECKS.same("a slanting shift of three", press.tolerance(), 2);
    press.setPins(3, 3);
    CHECKS.same("the pins do not matter", press.tolerance(), 2);
    press.carve(1, 7, 5, 0);
    CHECKS.same("gaps without a shift", press.tolerance(), Checks.NONE);
    // Worn lines count as they are.
    Press worn = Checks.framed(4);
    CHECKS.same("a frame of one", worn.tolerance(), 1);
    worn.set(3, 1);
    worn.print(1);
    CHECKS.same("worn", worn.tolerance(), 0);
    worn.carve(1, 3, 3, 0);
    CHECKS.same("worn without colour", worn.tolerance(), Checks.NONE);
  }

  private static void promise22TrapFor() {
    // A colour cell amid lines: the corner of a square of r is 2r steps away.
    Press press = new Press();
    press.paint(0, 0, 16, 12, 2);
    press.paint(7, 5, 1, 1, 1);
    CHECKS.same("trapFor(0)", press.trapFor(0), 0);
    CHECKS.same("trapFor(1)", press.trapFor(1), 2);
    CHECKS.same("trapFor(2)", press.trapFor(2), 4);
    CHECKS.same("trapFor(3)", press.trapFor(3), Checks.NONE);
    CHECKS.same("trapFor(4)", press.trapFor(4), Checks.NONE);
    for (int r = 0; r <= 2; r++) {
      press.cut(press.trapFor(r));
      CHECKS.holds("that trap does", press.tolerance() >= r);
    }
    CHECKS.invalid("r", press, new int[] {-1, 5, Integer.MIN_VALUE, Integer.MAX_VALUE}, press::trapFor);
    // The blocks as they are do not matter, nor their wear, nor the register.
    press.set(3, 1);
    press.print(1);
    press.carve(0, 0, 0, 0);
    press.carve(1, 7, 5, 0);
    press.setPins(4, 4);
    CHECKS.same("blocks that were cut anew", press.trapFor(1), 2);
    // Colour at the edge can't be held: outside of the block nothing prints.
    press.paint(0, 3, 1, 1, 1);
    CHECKS.same("colour at the edge", press.trapFor(1), Checks.NONE);
    CHECKS.same("colour at the edge without a shift", press.trapFor(0), 0);
    press.paint(0, 0, 16, 12, 2);
    CHECKS.same("lines alone", press.trapFor(4), 0);
  }

  private static void promise23BestPins() {
    Press press = Checks.framed(0);
    press.set(0, 100);
    press.set(1, 3);
    press.set(2, -2);
    CHECKS.same("px plus 4", press.bestPins(0), 1);
    CHECKS.same("py plus 4", press.bestPins(1), 6);
    CHECKS.same("gaps and spills", press.bestPins(2), 0);
    press.setPins(4, 4);
    CHECKS.same("the pins as they are do not matter", press.bestPins(0), 1);
    press.set(3, 1);
    press.print(1);
    press.set(0, 100);
    CHECKS.same("worn lines are gaps", press.bestPins(2), 18);
    CHECKS.same("px plus 4 then, colour anywhere in the frame", press.bestPins(0), 0);
    CHECKS.same("py plus 4 then", press.bestPins(1), 5);
    CHECKS.invalid("what", press, new int[] {-1, 3, Integer.MIN_VALUE, Integer.MAX_VALUE}, press::bestPins);
    // The farthest pins of either side.
    Press far = new Press();
    far.paint(9, 9, 1, 1, 1);
    far.carve(1, 5, 5, 1);
    CHECKS.same("px plus 4, far", far.bestPins(0), 8);
    CHECKS.same("py plus 4, far", far.bestPins(1), 8);
    CHECKS.same("gaps and spills, far", far.bestPins(2), 0);
    far.paint(9, 9, 1, 1, 0);
    far.paint(1, 1, 1, 1, 1);
    CHECKS.same("px plus 4, far to the left", far.bestPins(0), 0);
    CHECKS.same("py plus 4, far up", far.bestPins(1), 0);
    CHECKS.same("gaps and spills, far", far.bestPins(2), 0);
    // Spills count as gaps do.
    Press spilt = new Press();
    spilt.paint(5, 5, 1, 1, 1);
    spilt.carve(1, 5, 5, 1);
    spilt.carve(1, 6, 5, 1);
    CHECKS.same("a gap or a spill at least", spilt.bestPins(2), 1);
    CHECKS.same("px plus 4", spilt.bestPins(0), 3);
    CHECKS.same("py plus 4", spilt.bestPins(1), 4);
  }

  private static void promise23BestPinsTies() {
    Press press = new Press();
    CHECKS.same("the least px of all", press.bestPins(0), 0);
    CHECKS.same("the least py of all", press.bestPins(1), 0);
    CHECKS.same("nothing is wrong", press.bestPins(2), 0);
    // Every cell wrong with any pins: a full colour block in a white picture loses most when it is shifted most.
    for (int i = 0; i < 12; i++) {
      for (int x = 0; x < 16; x++) {
        press.carve(1, x, i, 1);
      }
    }
    CHECKS.same("px plus 4", press.bestPins(0), 0);
    CHECKS.same("py plus 4", press.bestPins(1), 0);
    CHECKS.same("spills", press.bestPins(2), 12 * 8);
    // One cell of the colour block covers one of three colour cells with (-1, 2), (-1, -2) and (2, -3).
    Press tie = new Press();
    tie.paint(7, 8, 1, 1, 1);
    tie.paint(7, 4, 1, 1, 1);
    tie.paint(10, 3, 1, 1, 1);
    tie.carve(1, 8, 6, 1);
    CHECKS.same("two gaps are left", tie.bestPins(2), 2);
    CHECKS.same("the least px of the three", tie.bestPins(0), 3);
    CHECKS.same("the least py of the two with it", tie.bestPins(1), 2);
  }

  private static void promise24PrintsLeft() {
    Press press = new Press();
    CHECKS.same("no line block", press.printsLeft(), Checks.NONE);
    press.carve(0, 5, 5, 1);
    CHECKS.same("a lone cell at hardness 40", press.printsLeft(), 9);
    press.print(8);
    CHECKS.same("behind eight prints", press.count(15), 0);
    CHECKS.same("one is left", press.printsLeft(), 1);
    press.print(1);
    CHECKS.same("it is worn", press.count(15), 1);
    CHECKS.same("all are worn", press.printsLeft(), Checks.NONE);
    press.carve(0, 6, 5, 1);
    CHECKS.same("a cell beside a worn one is alone", press.printsLeft(), 9);
    press.set(3, 45);
    CHECKS.same("with the worn one back, and four free sides less one", press.printsLeft(), 1);
    press.set(3, 1000);
    press.carve(0, 5, 5, 1);
    CHECKS.same("two cells at hardness 1000", press.printsLeft(), 251);
    press.paint(0, 0, 16, 12, 2);
    press.cut(0);
    CHECKS.same("a full block at hardness 1000", press.printsLeft(), 334);
    press.set(3, 999);
    CHECKS.same("a full block at hardness 999", press.printsLeft(), 334);
    press.set(3, 998);
    CHECKS.same("a full block at hardness 998", press.printsLeft(), 333);
    Press corner = new Press();
    corner.carve(0, 0, 0, 1);
    CHECKS.same("a lone cell in the corner", corner.printsLeft(), 9);
    Press far = new Press();
    far.carve(0, 15, 11, 1);
    CHECKS.same("a lone cell in the far corner", far.printsLeft(), 9);
    // All but the middle of five by five cells are carved anew: it wears by 1 alone, and is worn first.
    Press middle = new Press();
    middle.paint(2, 2, 5, 5, 2);
    middle.cut(0);
    middle.set(3, 12);
    middle.print(4);
    middle.set(3, 6);
    for (int i = 0; i < 25; i++) {
      if (i != 12) {
        middle.carve(0, 2 + i % 5, 2 + i / 5, 1);
      }
    }
    CHECKS.same("its wear", middle.cell(4, 4, 3), 4);
    CHECKS.same("a corner is worn as soon", middle.printsLeft(), 3);
    middle.set(3, 4);
    CHECKS.same("the middle first", middle.printsLeft(), 1);
    for (int i = 0; i < 49; i++) {
      press.cut(0);
      press.print(100);
    }
    press.cut(0);
    CHECKS.same("the limit of print() does not matter", press.printsLeft(), 333);
  }

  private static void nothingChanges() {
    Press press = Checks.framed(2);
    press.setPins(1, -1);
    press.print(3);
    java.util.List<Integer> before = Looks.whole(press);
    press.printed(4, 4, 3, 3);
    press.faults(2, 2, 0);
    press.why(4, 4);
    press.tolerance();
    press.trapFor(3);
    press.bestPins(2);
    press.printsLeft();
    CHECKS.holds("looking changes nothing", before.equals(Looks.whole(press)));
  }
}
