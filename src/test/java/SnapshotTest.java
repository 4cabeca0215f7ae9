import java.util.ArrayList;
import java.util.List;

/** Promises 9 to 11: take, restore and undo. */
public final class SnapshotTest {
  private static final Checks CHECKS = new Checks("SnapshotTest");

  public static void main(String[] args) {
    promise09Take();
    promise10Restore();
    promise10RestoreRefused();
    promise11UndoOfEachAction();
    promise11UndoKeepsFive();
    promise11UndoLeavesText();
    CHECKS.end();
  }

  private static void promise09Take() {
    Press press = Checks.framed(1);
    CHECKS.same("take", press.take(1), 30);
    CHECKS.same("snapshots", press.count(17), 1);
    CHECKS.same("take is recorded", press.count(18), 4);
    CHECKS.same("take again", press.take(1), 30);
    CHECKS.same("snapshots", press.count(17), 1);
    press.paint(0, 0, 2, 1, 1);
    CHECKS.same("take into the other slot", press.take(0), 32);
    CHECKS.same("snapshots", press.count(17), 2);
    CHECKS.invalid("slot", press, new int[] {-1, 2, Integer.MIN_VALUE, Integer.MAX_VALUE}, press::take);
    press.undo();
    CHECKS.same("a take undone", press.count(17), 1);
    CHECKS.refused("the slot is empty again", press, Checks.ILLEGAL, () -> press.restore(0));
    press.undo();
    press.undo();
    press.undo();
    CHECKS.same("all takes undone", press.count(17), 0);
    // An undo brings back what was in the slot.
    for (int slot = 0; slot <= 1; slot++) {
      int one = slot;
      Press again = new Press();
      again.paint(0, 0, 3, 1, 1);
      again.take(slot);
      again.paint(0, 0, 9, 1, 2);
      again.take(slot);
      CHECKS.same("undo", again.undo(), 3);
      CHECKS.same("the older snapshot", again.restore(slot), 3);
      CHECKS.same("undo of the restore", again.undo(), 3);
      CHECKS.same("the picture", again.count(12), 9);
      CHECKS.same("undo", again.undo(), 2);
      CHECKS.same("undo", again.undo(), 1);
      CHECKS.refused("an empty slot again", again, Checks.ILLEGAL, () -> again.restore(one));
    }
    Press empty = new Press();
    CHECKS.same("take of a white picture", empty.take(0), 0);
  }

  private static void promise10Restore() {
    Press press = Checks.framed(1);
    press.print(2);
    press.carve(1, 15, 11, 1);
    press.take(0);
    List<Integer> blocks = Looks.cells(press);
    press.paint(0, 0, 16, 12, 2);
    press.cut(0);
    press.set(3, 3);
    press.setPins(2, 2);
    press.print(5);
    CHECKS.same("restore", press.restore(0), 30);
    CHECKS.same("the hardness stays", press.count(4), 3);
    CHECKS.same("the pins stay", press.count(6), 2);
    CHECKS.same("the prints stay", press.count(0), 7);
    CHECKS.same("the log stays", press.count(16), 7);
    CHECKS.same("the snapshot stays", press.count(17), 1);
    press.set(3, 40);
    CHECKS.holds("picture, blocks and wear are back", blocks.equals(Looks.cells(press)));
    press.print(5);
    press.carve(0, 5, 5, 1);
    CHECKS.same("restore again", press.restore(0), 30);
    CHECKS.holds("picture, blocks and wear are back again", blocks.equals(Looks.cells(press)));
    // Taking again goes in place of what was there, and the slots are apart.
    press.paint(0, 0, 16, 12, 0);
    press.take(0);
    press.paint(0, 0, 1, 1, 2);
    press.take(1);
    CHECKS.same("the first slot", press.restore(0), 0);
    CHECKS.same("the second slot", press.restore(1), 1);
    CHECKS.same("restore is recorded", press.count(18), 5);
  }

  private static void promise10RestoreRefused() {
    Press press = Checks.framed(1);
    CHECKS.refused("an empty slot", press, Checks.ILLEGAL, () -> press.restore(0));
    press.take(0);
    CHECKS.refused("the other slot", press, Checks.ILLEGAL, () -> press.restore(1));
    CHECKS.invalid("slot", press, new int[] {-1, 2, Integer.MIN_VALUE, Integer.MAX_VALUE}, press::restore);
  }

  private static void promise11UndoOfEachAction() {
    Press press = Checks.framed(1);
    press.set(3, 5);
    press.print(2);
    press.take(1);
    Checks.write(press, "0:16c;");
    List<Runnable> actions = new ArrayList<>();
    actions.add(() -> press.paint(0, 0, 5, 5, 1));
    actions.add(() -> press.cut(3));
    actions.add(() -> press.carve(0, 3, 3, 0));
    actions.add(() -> press.carve(1, 3, 3, 0));
    actions.add(() -> press.plug(3, 3));
    actions.add(() -> press.setPins(3, -2));
    actions.add(() -> press.set(0, 99));
    actions.add(() -> press.set(4, 9));
    actions.add(() -> press.print(30));
    actions.add(() -> press.take(0));
    actions.add(() -> press.restore(1));
    actions.add(press::load);
    for (int i = 0; i < actions.size(); i++) {
      List<Integer> before = Looks.seenState(press);
      int states = press.count(18);
      actions.get(i).run();
      CHECKS.same("action " + i + " is recorded", press.count(18), Math.min(5, states + 1));
      CHECKS.same("undo of action " + i, press.undo(), Math.min(4, states));
      CHECKS.holds("action " + i + " is undone", before.equals(Looks.seenState(press)));
    }
  }

  private static void promise11UndoKeepsFive() {
    Press press = new Press();
    CHECKS.refused("nothing to undo", press, Checks.ILLEGAL, press::undo);
    for (int i = 1; i <= 9; i++) {
      press.paint(0, 0, i, 1, 1);
      CHECKS.same("states behind " + i, press.count(18), Math.min(5, i));
    }
    for (int i = 1; i <= 5; i++) {
      CHECKS.same("undo " + i, press.undo(), 5 - i);
      CHECKS.same("the picture then", press.count(11), 9 - i);
    }
    CHECKS.refused("no sixth undo", press, Checks.ILLEGAL, press::undo);
    CHECKS.same("the oldest was dropped", press.count(11), 4);
    press.paint(0, 5, 1, 1, 2);
    press.paint(0, 6, 1, 1, 2);
    CHECKS.same("undo", press.undo(), 1);
    press.paint(0, 7, 2, 1, 2);
    CHECKS.same("undo", press.undo(), 1);
    CHECKS.same("undo", press.undo(), 0);
    CHECKS.same("lines", press.count(12), 0);
  }

  private static void promise11UndoLeavesText() {
    Press press = new Press();
    press.paint(0, 0, 1, 1, 1);
    Checks.write(press, "3:16l;");
    press.undo();
    CHECKS.same("the text stays", press.count(19), 6);
    CHECKS.same("load", press.load(), 1);
    CHECKS.same("undo of load", press.undo(), 0);
    CHECKS.same("the text does not come back", press.count(19), 0);
    CHECKS.same("the picture does", press.count(10), 192);
    press.append(49);
    press.clearText();
    CHECKS.same("text calls are no actions", press.count(18), 0);
  }
}
