/** Promises 15 to 18: count, cell, printed and proof. */
public final class LookingTest {
  private static final Checks CHECKS = new Checks("LookingTest");

  public static void main(String[] args) {
    promise15Count();
    promise16Cell();
    promise17Printed();
    promise17PrintedEdges();
    promise17PrintedRefused();
    promise18Proof();
    promise18ProofRefused();
    CHECKS.end();
  }

  private static void promise15Count() {
    Press press = Checks.framed(1);
    press.set(0, 80);
    press.set(1, 2);
    press.set(2, -3);
    press.set(3, 7);
    press.set(4, 5);
    press.setPins(-2, 3);
    press.take(1);
    press.carve(0, 0, 0, 1);
    press.print(3);
    Checks.write(press, "abc");
    // The damp is 80, 75 and 70 while printing; corners of the frame wear by 3, its sides by 3, the lone cell by 5.
    int[] due = {3, 65, 2, -3, 7, 5, -2, 3, -2, 3, 162, 12, 18, 19, 26, 19, 3, 1, 5, 3};
    for (int what = 0; what < due.length; what++) {
      CHECKS.same("count(" + what + ")", press.count(what), due[what]);
    }
    CHECKS.invalid("what", press, new int[] {-1, 20, Integer.MIN_VALUE, Integer.MAX_VALUE}, press::count);
    press.take(0);
    CHECKS.same("both snapshots", press.count(17), 2);
    press.set(0, 90);
    CHECKS.same("sx", press.count(8), -1);
    CHECKS.same("sy", press.count(9), 1);
    press.print(20);
    CHECKS.same("the log keeps twelve", press.count(16), 12);
  }

  private static void promise16Cell() {
    Press press = Checks.framed(1);
    press.carve(0, 0, 11, 1);
    press.carve(1, 15, 0, 1);
    press.set(3, 4);
    press.print(1);
    int[][] due = {
        {0, 11, 0, 1, 0, 5, 1},
        {15, 0, 0, 0, 1, 0, 0},
        {3, 3, 2, 1, 0, 3, 0},
        {4, 3, 2, 1, 1, 3, 0},
        {4, 4, 1, 0, 1, 0, 0},
        {15, 11, 0, 0, 0, 0, 0}};
    for (int[] one : due) {
      for (int what = 0; what <= 4; what++) {
        CHECKS.same("cell(" + one[0] + ", " + one[1] + ", " + what + ")", press.cell(one[0], one[1], what), one[what + 2]);
      }
    }
    press.setPins(4, 4);
    CHECKS.same("the colour block is not shifted here", press.cell(4, 3, 2), 1);
    CHECKS.invalid("x", press, new int[] {-1, 16, Integer.MIN_VALUE, Integer.MAX_VALUE}, v -> press.cell(v, 0, 0));
    CHECKS.invalid("y", press, new int[] {-1, 12, Integer.MIN_VALUE, Integer.MAX_VALUE}, v -> press.cell(0, v, 0));
    CHECKS.invalid("what", press, new int[] {-1, 5, Integer.MIN_VALUE, Integer.MAX_VALUE}, v -> press.cell(0, 0, v));
  }

  private static void promise17Printed() {
    Press press = Checks.framed(1);
    CHECKS.same("nothing", press.printed(0, 0, 0, 0), 0);
    CHECKS.same("colour", press.printed(4, 4, 0, 0), 1);
    CHECKS.same("a line", press.printed(3, 3, 0, 0), 2);
    CHECKS.same("both", press.printed(4, 3, 0, 0), 3);
    CHECKS.same("shifted to the right", press.printed(9, 4, 1, 0), 1);
    CHECKS.same("shifted to the left", press.printed(2, 4, -1, 0), 1);
    CHECKS.same("shifted down", press.printed(4, 8, 0, 1), 1);
    CHECKS.same("shifted up", press.printed(4, 2, 0, -1), 1);
    CHECKS.same("the line block stays", press.printed(3, 3, 8, 8), 2);
    press.setPins(2, 2);
    CHECKS.same("the register does not matter", press.printed(4, 4, 0, 0), 1);
    press.set(3, 2);
    press.print(1);
    CHECKS.same("a worn cell prints no line", press.printed(3, 3, 0, 0), 0);
    CHECKS.same("colour under a worn cell", press.printed(4, 3, 0, 0), 1);
  }

  private static void promise17PrintedEdges() {
    Press press = new Press();
    press.paint(0, 0, 16, 12, 1);
    press.cut(0);
    CHECKS.same("the far corner", press.printed(15, 11, 8, 8), 1);
    CHECKS.same("the first column that is printed", press.printed(8, 11, 8, 8), 1);
    CHECKS.same("the last column that is not", press.printed(7, 11, 8, 8), 0);
    CHECKS.same("the first row that is printed", press.printed(15, 8, 8, 8), 1);
    CHECKS.same("the last row that is not", press.printed(15, 7, 8, 8), 0);
    CHECKS.same("the near corner", press.printed(0, 0, -8, -8), 1);
    CHECKS.same("the last column that is printed", press.printed(7, 0, -8, -8), 1);
    CHECKS.same("the first column that is not", press.printed(8, 0, -8, -8), 0);
    CHECKS.same("the last row that is printed", press.printed(0, 3, -8, -8), 1);
    CHECKS.same("the first row that is not", press.printed(0, 4, -8, -8), 0);
  }

  private static void promise17PrintedRefused() {
    Press press = Checks.framed(1);
    CHECKS.invalid("x", press, new int[] {-1, 16, Integer.MIN_VALUE, Integer.MAX_VALUE}, v -> press.printed(v, 0, 0, 0));
    CHECKS.invalid("y", press, new int[] {-1, 12, Integer.MIN_VALUE, Integer.MAX_VALUE}, v -> press.printed(0, v, 0, 0));
    CHECKS.invalid("sx", press, new int[] {-9, 9, Integer.MIN_VALUE, Integer.MAX_VALUE}, v -> press.printed(0, 0, v, 0));
    CHECKS.invalid("sy", press, new int[] {-9, 9, Integer.MIN_VALUE, Integer.MAX_VALUE}, v -> press.printed(0, 0, 0, v));
  }

  private static void promise18Proof() {
    Press press = Checks.framed(0);
    press.set(3, 1000);
    for (int i = 0; i < 5; i++) {
      press.setPins(i, -i);
      press.print(3);
    }
    for (int back = 0; back < 12; back++) {
      int shift = 4 - back / 3;
      CHECKS.same("number " + back + " back", press.proof(back, 0), 15 - back);
      CHECKS.same("sx plus 8, " + back + " back", press.proof(back, 1), 8 + shift);
      CHECKS.same("sy plus 8, " + back + " back", press.proof(back, 2), 8 - shift);
      for (int what = 0; what < 3; what++) {
        CHECKS.same("fault " + what + ", " + back + " back", press.proof(back, 3 + what), press.faults(shift, -shift, what));
      }
    }
    CHECKS.same("no thirteenth", press.proof(12, 0), Checks.NONE);
    press.undo();
    CHECKS.same("the log is undone, too", press.proof(0, 0), 12);
    CHECKS.same("with its oldest", press.proof(11, 0), 1);
  }

  private static void promise18ProofRefused() {
    Press press = Checks.framed(0);
    press.print(2);
    CHECKS.same("the oldest", press.proof(1, 0), 1);
    CHECKS.refused("not so many", press, Checks.NONE, () -> press.proof(2, 0));
    CHECKS.refused("far from so many", press, Checks.NONE, () -> press.proof(Integer.MAX_VALUE, 5));
    CHECKS.refused("a wrong what comes first", press, Checks.INVALID, () -> press.proof(2, 6));
    CHECKS.invalid("back", press, new int[] {-1, -12, Integer.MIN_VALUE}, v -> press.proof(v, 0));
    CHECKS.invalid("what", press, new int[] {-1, 6, Integer.MIN_VALUE, Integer.MAX_VALUE}, v -> press.proof(0, v));
  }
}
