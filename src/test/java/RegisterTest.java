/** Promises 6 to 8: setPins, set and print. */
public final class RegisterTest {
  private static final Checks CHECKS = new Checks("RegisterTest");

  public static void main(String[] args) {
    promise06SetPins();
    promise06SetPinsRefused();
    promise07Set();
    promise07SetRefused();
    promise07RegisterRoundsTowardZero();
    promise08PrintFaults();
    promise08PrintWear();
    promise08PrintWornCells();
    promise08PrintDamp();
    promise08PrintLimit();
    promise08PrintRefused();
    CHECKS.end();
  }

  private static void promise06SetPins() {
    Press press = Checks.framed(0);
    CHECKS.same("no gaps at first", press.setPins(0, 0), 0);
    CHECKS.same("a step to the right", press.setPins(1, 0), 3);
    CHECKS.same("px", press.count(6), 1);
    CHECKS.same("py", press.count(7), 0);
    CHECKS.same("a step up", press.setPins(0, -1), 4);
    CHECKS.same("far away", press.setPins(4, 4), 12);
    CHECKS.same("sx", press.count(8), 4);
    CHECKS.same("sy", press.count(9), 4);
    CHECKS.same("the other corner", press.setPins(-4, -4), 12);
    CHECKS.same("it is recorded", press.count(18), 5);
    press.set(0, 100);
    CHECKS.same("the damp counts too", press.setPins(-1, 0), 0);
    CHECKS.same("sx", press.count(8), 0);
  }

  private static void promise06SetPinsRefused() {
    Press press = Checks.framed(1);
    press.setPins(2, -3);
    CHECKS.invalid("px", press, new int[] {-5, 5, Integer.MIN_VALUE, Integer.MAX_VALUE}, v -> press.setPins(v, 0));
    CHECKS.invalid("py", press, new int[] {-5, 5, Integer.MIN_VALUE, Integer.MAX_VALUE}, v -> press.setPins(0, v));
  }

  private static void promise07Set() {
    Press press = new Press();
    int[] first = {50, 1, 0, 40, 2};
    int[] least = {0, -4, -4, 1, 0};
    int[] greatest = {100, 4, 4, 1000, 10};
    for (int what = 0; what < 5; what++) {
      CHECKS.same("set(" + what + ") to its least", press.set(what, least[what]), first[what]);
      CHECKS.same("count", press.count(what + 1), least[what]);
      CHECKS.same("set(" + what + ") to its greatest", press.set(what, greatest[what]), least[what]);
      CHECKS.same("count", press.count(what + 1), greatest[what]);
      CHECKS.same("set(" + what + ") to what it is", press.set(what, greatest[what]), greatest[what]);
    }
    CHECKS.same("set is recorded", press.count(18), 5);
  }

  private static void promise07SetRefused() {
    Press press = new Press();
    int[] below = {-1, -5, -5, 0, -1};
    int[] above = {101, 5, 5, 1001, 11};
    for (int what = 0; what < 5; what++) {
      int setting = what;
      CHECKS.invalid("value of " + what, press,
          new int[] {below[what], above[what], Integer.MIN_VALUE, Integer.MAX_VALUE}, v -> press.set(setting, v));
    }
    CHECKS.invalid("what", press, new int[] {-1, 5, 6, Integer.MIN_VALUE, Integer.MAX_VALUE}, v -> press.set(v, 1));
  }

  private static void promise07RegisterRoundsTowardZero() {
    Press press = new Press();
    press.set(1, 1);
    press.set(2, -3);
    press.set(0, 1);
    CHECKS.same("sx at damp 1", press.count(8), 0);
    CHECKS.same("sy at damp 1", press.count(9), 2);
    press.set(0, 0);
    CHECKS.same("sx at damp 0", press.count(8), -1);
    CHECKS.same("sy at damp 0", press.count(9), 3);
    press.set(0, 99);
    CHECKS.same("sx at damp 99", press.count(8), 0);
    CHECKS.same("sy at damp 99", press.count(9), -2);
    press.set(0, 37);
    press.set(1, 4);
    press.setPins(-4, 4);
    CHECKS.same("sx at damp 37", press.count(8), -5);
    CHECKS.same("sy at damp 37", press.count(9), 4);
    press.set(0, 0);
    CHECKS.same("the least sx", press.count(8), -8);
    CHECKS.same("sy", press.count(9), 7);
  }

  private static void promise08PrintFaults() {
    Press press = new Press();
    press.paint(0, 0, 1, 1, 1);
    press.paint(1, 0, 1, 1, 2);
    press.carve(1, 0, 0, 1);
    CHECKS.same("a line without ink is a gap", press.print(1), 1);
    CHECKS.same("its gaps", press.proof(0, 3), 1);
    CHECKS.same("its spills", press.proof(0, 4), 0);
    CHECKS.same("its lost lines", press.proof(0, 5), 1);
    press.setPins(1, 0);
    CHECKS.same("colour on the lost line", press.print(1), 1);
    CHECKS.same("its gaps", press.proof(0, 3), 1);
    CHECKS.same("its spills", press.proof(0, 4), 0);
    CHECKS.same("its lost lines", press.proof(0, 5), 1);
    press.setPins(0, 1);
    press.carve(0, 0, 1, 1);
    CHECKS.same("colour and a line on white", press.print(1), 2);
    CHECKS.same("its spills", press.proof(0, 4), 1);
    CHECKS.same("its number", press.proof(0, 0), 3);
    CHECKS.same("its sx", press.proof(0, 1), 8);
    CHECKS.same("its sy", press.proof(0, 2), 9);
    press.setPins(-1, -1);
    press.print(1);
    CHECKS.same("colour outside is no spill", press.proof(0, 4), 0);
    CHECKS.same("its sx", press.proof(0, 1), 7);
    CHECKS.same("its sy", press.proof(0, 2), 7);
  }

  private static void promise08PrintWear() {
    Press press = new Press();
    press.paint(0, 0, 3, 3, 2);
    press.paint(15, 11, 1, 1, 2);
    press.cut(0);
    press.print(1);
    int[] due = {3, 2, 3, 2, 1, 2, 3, 2, 3};
    for (int i = 0; i < 9; i++) {
      CHECKS.same("wear at " + i, press.cell(i % 3, i / 3, 3), due[i]);
    }
    CHECKS.same("wear of a lone cell", press.cell(15, 11, 3), 5);
    press.print(4);
    for (int i = 0; i < 9; i++) {
      CHECKS.same("wear behind five prints at " + i, press.cell(i % 3, i / 3, 3), 5 * due[i]);
    }
    CHECKS.same("wear outside of the block", press.cell(3, 0, 3), 0);
  }

  private static void promise08PrintWornCells() {
    Press press = new Press();
    press.paint(0, 0, 3, 1, 2);
    press.cut(0);
    press.set(3, 7);
    // The ends wear by 4 and the middle by 3: all are looked at as they were ahead of the print.
    CHECKS.same("two prints", press.print(2), 0);
    CHECKS.same("an end", press.cell(0, 0, 3), 8);
    CHECKS.same("the middle", press.cell(1, 0, 3), 6);
    CHECKS.same("worn", press.count(15), 2);
    CHECKS.same("worn ends are gaps", press.print(1), 2);
    CHECKS.same("worn ends wear no more", press.cell(0, 0, 3), 8);
    CHECKS.same("the middle stands alone now", press.cell(1, 0, 3), 11);
    CHECKS.same("all are worn", press.print(3), 9);
    CHECKS.same("the middle wears no more", press.cell(1, 0, 3), 11);
    CHECKS.same("all still count as printing", press.count(13), 3);
    press.set(3, 8);
    CHECKS.same("greater than the hardness, not as great", press.count(15), 1);
    CHECKS.same("the ends print again", press.print(1), 1);
    CHECKS.same("they are alone", press.cell(0, 0, 3), 13);
  }

  private static void promise08PrintDamp() {
    Press press = Checks.framed(0);
    press.set(0, 100);
    press.set(1, 4);
    press.set(4, 10);
    CHECKS.same("the proof comes ahead of the drying", press.print(1), 12);
    CHECKS.same("sx", press.proof(0, 1), 12);
    CHECKS.same("the damp", press.count(1), 90);
    press.print(3);
    CHECKS.same("the damp", press.count(1), 60);
    CHECKS.same("sx of the latest", press.proof(0, 1), 9);
    CHECKS.same("sx of the one before", press.proof(1, 1), 10);
    CHECKS.same("sx of the one before that", press.proof(2, 1), 11);
    press.set(0, 15);
    press.print(2);
    CHECKS.same("the damp is at least 0", press.count(1), 0);
    press.set(4, 0);
    press.set(0, 7);
    press.print(5);
    CHECKS.same("no drying", press.count(1), 7);
  }

  private static void promise08PrintLimit() {
    Press press = new Press();
    for (int i = 0; i < 49; i++) {
      CHECKS.same("a hundred prints", press.print(100), 0);
    }
    CHECKS.same("all but one", press.print(99), 0);
    CHECKS.refused("two more", press, Checks.CAPACITY, () -> press.print(2));
    CHECKS.refused("a wrong number comes first", press, Checks.INVALID, () -> press.print(101));
    CHECKS.same("one more", press.print(1), 0);
    CHECKS.same("the prints so far", press.count(0), 5000);
    CHECKS.refused("one too many", press, Checks.CAPACITY, () -> press.print(1));
    CHECKS.same("the number of the latest", press.proof(0, 0), 5000);
    CHECKS.same("the number of the oldest", press.proof(11, 0), 4989);
    press.undo();
    CHECKS.same("there is room again", press.print(1), 0);
  }

  private static void promise08PrintRefused() {
    Press press = Checks.framed(1);
    press.print(3);
    CHECKS.invalid("prints", press, new int[] {0, -1, 101, Integer.MIN_VALUE, Integer.MAX_VALUE}, press::print);
    CHECKS.same("one action", press.count(18), 4);
    press.undo();
    CHECKS.same("all its prints are undone", press.count(0), 0);
  }
}
