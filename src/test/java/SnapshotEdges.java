import java.util.ArrayList;
import java.util.List;
import java.util.function.Consumer;

/** The boundary cases of snapshots and undo, and of promises 9 to 11. */
final class SnapshotEdges {
  private final Edge edge;

  SnapshotEdges(Edge edge) {
    this.edge = edge;
  }

  void check() {
    twoSlots();
    whatSnapshotKeeps();
    nothingElseChanges();
    takeSlots();
    takeInPlace();
    takeAnswers();
    restoreSlots();
    restoreStays();
    restoreAnswers();
    atMostFiveStates();
    stateIsEverythingElse();
    everyActionIsRecorded();
    refusedCallsAreNotRecorded();
    otherCallsAreNotRecorded();
    sixthDropsOldest();
    undoAnswers();
    undoUntilEmpty();
  }

  private void twoSlots() {
    edge.says("Snapshots", "There are two slots for snapshots, empty at first.");
    Press press = new Press();
    edge.same("snapshots at first", press.count(17), 0);
    edge.refused("the first slot", press, Checks.ILLEGAL, () -> press.restore(0));
    edge.refused("the second slot", press, Checks.ILLEGAL, () -> press.restore(1));
    edge.refused("a third slot", press, Checks.INVALID, () -> press.take(2));
    for (int slot = 0; slot <= 1; slot++) {
      int other = 1 - slot;
      Press one = new Press();
      one.take(slot);
      edge.same("snapshots behind one", one.count(17), 1);
      edge.refused("the other slot", one, Checks.ILLEGAL, () -> one.restore(other));
      one.take(other);
      edge.same("snapshots behind two", one.count(17), 2);
      one.take(slot);
      edge.same("snapshots behind three", one.count(17), 2);
    }
  }

  /** Each slot holds another picture, with other blocks and other wear. */
  private static Press both() {
    Press press = Checks.framed(1);
    press.print(2);
    press.take(0);
    press.paint(0, 0, 16, 12, 1);
    press.paint(15, 11, 1, 1, 2);
    press.cut(2);
    press.print(3);
    press.take(1);
    return press;
  }

  private void whatSnapshotKeeps() {
    edge.says("Snapshots", "A snapshot keeps the picture and both blocks with their wear.");
    for (int slot = 0; slot <= 1; slot++) {
      Press press = both();
      press.restore(slot);
      List<Integer> kept = Looks.cells(press);
      edge.same("the line's wear", press.cell(slot == 0 ? 3 : 15, slot == 0 ? 3 : 11, 3), slot == 0 ? 6 : 15);
      edge.same("the cells of the line block", press.count(13), slot == 0 ? 18 : 1);
      edge.same("the cells of the colour block", press.count(14), slot == 0 ? 26 : 192);
      edge.same("the cells of the picture that are colour", press.count(11), slot == 0 ? 12 : 191);
      press.paint(0, 0, 16, 12, 0);
      press.cut(0);
      press.carve(0, 3, 3, 1);
      press.print(1);
      press.restore(slot);
      edge.holds("all of slot " + slot + " is back", kept.equals(Looks.cells(press)));
    }
  }

  private void nothingElseChanges() {
    edge.says("Snapshots", "To restore it makes these those of the snapshot; nothing else changes.");
    Press press = both();
    press.set(0, 77);
    press.set(1, -3);
    press.set(2, 4);
    press.set(3, 5);
    press.set(4, 9);
    press.setPins(-4, 2);
    Checks.write(press, "0:16l;");
    List<Integer> counts = Looks.seen(press).subList(0, 10);
    press.restore(0);
    edge.holds("prints, settings, pins and register stay", counts.equals(Looks.seen(press).subList(0, 10)));
    edge.same("the log stays", press.count(16), 5);
    edge.same("the latest proof stays", press.proof(0, 0), 5);
    edge.same("the snapshots stay", press.count(17), 2);
    edge.same("the text stays", press.count(19), 6);
    edge.same("a wear of 6 is worn by the hardness as it is now", press.count(15), 18);
    edge.same("the other snapshot stays", press.restore(1), 192);
    edge.same("the text is whole", press.load(), 1);
  }

  private void takeSlots() {
    edge.says("Promise 9", "`slot`: 0 or 1");
    edge.range(0, 1, Press::take);
  }

  private void takeInPlace() {
    edge.says("Promise 9", "Takes a snapshot, in place of one that is there. This is an action.");
    for (int slot = 0; slot <= 1; slot++) {
      Press press = both();
      press.paint(0, 0, 5, 1, 0);
      press.take(slot);
      press.paint(0, 0, 16, 12, 0);
      edge.same("the later one is restored", press.restore(slot), 187);
      edge.same("the other slot's one stays", press.restore(1 - slot), slot == 0 ? 192 : 30);
      press.undo();
      press.undo();
      press.undo();
      press.undo();
      edge.same("undo brings back the one that was there", press.restore(slot), slot == 0 ? 30 : 192);
    }
    Press same = new Press();
    same.take(0);
    same.take(0);
    edge.same("taking the same again is an action, too", same.count(18), 2);
  }

  private void takeAnswers() {
    edge.says("Promise 9", "Returns the number of cells of the picture that are not white; INVALID_ARGUMENT if slot is out of range.");
    Press press = new Press();
    edge.same("a white picture", press.take(0), 0);
    press.paint(0, 0, 16, 12, 2);
    edge.same("lines alone", press.take(0), 192);
    press.paint(0, 0, 16, 12, 1);
    edge.same("colour alone", press.take(1), 192);
    press.paint(0, 0, 16, 11, 0);
    press.paint(15, 11, 1, 1, 2);
    edge.same("a row of colour and a line", press.take(1), 16);
  }

  private void restoreSlots() {
    edge.says("Promise 10", "`slot`: 0 or 1");
    edge.range(0, 1, Press::restore);
  }

  private void restoreStays() {
    edge.says("Promise 10", "Restores a snapshot, which stays. This is an action.");
    Press press = both();
    for (int i = 0; i < 20; i++) {
      edge.same("restore " + i, press.restore(i % 2), i % 2 == 0 ? 30 : 192);
      press.paint(i % 16, i % 12, 1, 1, 0);
      press.cut(i % 5);
      press.print(1);
    }
    edge.same("both snapshots are there", press.count(17), 2);
    Press same = new Press();
    same.take(0);
    same.restore(0);
    edge.same("restoring what is there is an action, too", same.count(18), 2);
  }

  private void restoreAnswers() {
    edge.says("Promise 10", "Returns the number of cells of the picture that are not white then; INVALID_ARGUMENT if slot is out of "
        + "range; ILLEGAL_STATE if the slot is empty.");
    Press press = new Press();
    press.take(0);
    press.paint(0, 0, 16, 12, 2);
    press.take(1);
    edge.same("a white picture", press.restore(0), 0);
    edge.same("a full picture", press.restore(1), 192);
    for (int slot = 0; slot <= 1; slot++) {
      int one = slot;
      Press undone = new Press();
      undone.take(slot);
      undone.undo();
      edge.same("no snapshot", undone.count(17), 0);
      edge.refused("a slot that is empty again", undone, Checks.ILLEGAL, () -> undone.restore(one));
      edge.refused("a slot out of range comes first", undone, Checks.INVALID, () -> undone.restore(2));
    }
  }

  private void atMostFiveStates() {
    edge.says("Undo", "A history of at most 5 states is kept;");
    Press press = new Press();
    edge.same("none at first", press.count(18), 0);
    for (int i = 1; i <= 50; i++) {
      press.paint(i % 16, 0, 1, 1, i % 3);
      edge.same("states behind " + i, press.count(18), Math.min(i, 5));
    }
  }

  private void stateIsEverythingElse() {
    edge.says("Undo", "a state is everything but the text and the history.");
    Press press = both();
    press.set(3, 14);
    press.append('1');
    List<Integer> before = Looks.seenState(press);
    List<Consumer<Press>> actions = actions();
    for (int first = 0; first < actions.size(); first += 5) {
      Press other = press.again();
      int last = Math.min(first + 5, actions.size());
      for (int i = first; i < last; i++) {
        actions.get(i).accept(other);
      }
      for (int left = 4; left >= 5 - (last - first); left--) {
        edge.same("states left", other.undo(), left);
      }
      edge.holds("all is back behind the actions from " + first, before.equals(Looks.seenState(other)));
    }
    Press text = press.again();
    text.clearText();
    Checks.write(text, "0:16l;");
    text.undo();
    edge.same("the text is no part of a state", text.count(19), 6);
    edge.same("it can be read", text.load(), 1);
    text.undo();
    edge.same("and does not come back", text.count(19), 0);
    edge.same("the lines that were read are gone", text.count(12), 1);
    edge.same("the history is no part of a state, it has one less", text.count(18), 4);
  }

  /** Each of the actions, for a press with a worn cell at (15, 11) and a snapshot in the first slot. */
  private static List<Consumer<Press>> actions() {
    List<Consumer<Press>> all = new ArrayList<>();
    all.add(press -> press.paint(3, 3, 9, 9, 0));
    all.add(press -> press.cut(4));
    all.add(press -> press.carve(0, 9, 9, 1));
    all.add(press -> press.carve(1, 9, 9, 0));
    all.add(press -> press.setPins(-4, 4));
    all.add(press -> press.plug(15, 11));
    all.add(press -> press.set(0, 100));
    all.add(press -> press.set(1, -4));
    all.add(press -> press.set(2, -4));
    all.add(press -> press.set(3, 1000));
    all.add(press -> press.set(4, 10));
    all.add(press -> press.print(100));
    all.add(press -> press.take(0));
    all.add(press -> press.restore(0));
    all.add(press -> {
      press.clearText();
      Checks.write(press, "7:16l;");
      press.load();
    });
    return all;
  }

  private void everyActionIsRecorded() {
    edge.says("Undo", "Every successful call of a method that is called an action records the state before it;");
    List<Consumer<Press>> all = actions();
    // Those that change nothing are successful, too.
    all.add(press -> press.paint(0, 0, 1, 1, 0));
    all.add(press -> press.carve(0, 0, 0, 0));
    all.add(press -> press.carve(1, 0, 0, 0));
    all.add(press -> press.setPins(0, 0));
    all.add(press -> press.set(1, 1));
    all.add(press -> press.take(0));
    all.add(press -> press.restore(0));
    all.add(Press::load);
    for (int i = 0; i < all.size(); i++) {
      Press press = new Press();
      press.paint(4, 4, 4, 3, 1);
      press.carve(0, 15, 11, 1);
      press.print(9);
      press.take(0);
      List<Integer> before = Looks.seenState(press);
      all.get(i).accept(press);
      edge.same("states behind action " + i, press.count(18), 5);
      edge.same("states when it is undone", press.undo(), 4);
      edge.holds("action " + i + " is undone", before.equals(Looks.seenState(press)));
    }
  }

  private void refusedCallsAreNotRecorded() {
    edge.says("Undo", "Every successful call");
    Press press = Checks.framed(1);
    press.append('x');
    edge.refused("paint", press, Checks.INVALID, () -> press.paint(16, 0, 1, 1, 0));
    edge.refused("cut", press, Checks.INVALID, () -> press.cut(5));
    edge.refused("carve", press, Checks.INVALID, () -> press.carve(2, 0, 0, 0));
    edge.refused("plug", press, Checks.ILLEGAL, () -> press.plug(3, 3));
    edge.refused("setPins", press, Checks.INVALID, () -> press.setPins(5, 0));
    edge.refused("set", press, Checks.INVALID, () -> press.set(5, 0));
    edge.refused("print", press, Checks.INVALID, () -> press.print(0));
    edge.refused("take", press, Checks.INVALID, () -> press.take(2));
    edge.refused("restore", press, Checks.ILLEGAL, () -> press.restore(0));
    edge.refused("load", press, -2000, press::load);
    edge.same("three states, as ahead of them", press.count(18), 3);
  }

  private void otherCallsAreNotRecorded() {
    edge.says("Undo", "a method that is called an action");
    Press press = Checks.framed(1);
    List<Consumer<Press>> calls = new ArrayList<>();
    calls.add(one -> one.append('1'));
    calls.add(Press::clearText);
    calls.add(one -> one.count(18));
    calls.add(one -> one.cell(0, 0, 0));
    calls.add(one -> one.printed(0, 0, 0, 0));
    calls.add(one -> one.proof(0, 0));
    calls.add(one -> one.faults(0, 0, 0));
    calls.add(one -> one.why(0, 0));
    calls.add(Press::tolerance);
    calls.add(one -> one.trapFor(4));
    calls.add(one -> one.bestPins(2));
    calls.add(Press::printsLeft);
    for (Consumer<Press> call : calls) {
      call.accept(press);
      edge.same("states", press.count(18), 3);
    }
    press.undo();
    edge.same("undo() is not recorded", press.count(18), 2);
    edge.same("it takes back the cut", press.count(13), 0);
    press.undo();
    edge.same("it goes on to the state ahead of that", press.count(11), 0);
    edge.same("lines are left", press.count(12), 30);
  }

  private void sixthDropsOldest() {
    edge.says("Undo", "when a sixth one is recorded, the oldest one is dropped.");
    for (int actions = 4; actions <= 13; actions++) {
      Press press = new Press();
      for (int i = 1; i <= actions; i++) {
        press.setPins(i % 9 - 4, 0);
      }
      int dropped = Math.max(0, actions - 5);
      for (int left = actions - dropped - 1; left >= 0; left--) {
        edge.same("states left", press.undo(), left);
        int then = dropped + left;
        edge.same("px behind action " + then + " of " + actions, press.count(6), then == 0 ? 0 : then % 9 - 4);
      }
      edge.refused("no more states", press, Checks.ILLEGAL, press::undo);
    }
  }

  private void undoAnswers() {
    edge.says("Undo", "undo() removes the latest state from the history and restores it.");
    edge.says("Promise 11", "Removes the latest state from the history and restores it.");
    Press press = new Press();
    for (int i = 1; i <= 3; i++) {
      press.paint(0, 0, i, 1, 1);
    }
    edge.same("the latest", press.undo(), 2);
    edge.same("it is restored", press.count(11), 2);
    press.paint(0, 1, 16, 1, 1);
    edge.same("a new state comes behind the older ones", press.count(18), 3);
    edge.same("undo of that", press.undo(), 2);
    edge.same("it is restored", press.count(11), 2);
    edge.same("undo of the second", press.undo(), 1);
    edge.same("it is restored", press.count(11), 1);
    edge.same("undo of the first", press.undo(), 0);
    edge.same("it is restored", press.count(11), 0);
  }

  private void undoUntilEmpty() {
    edge.says("Promise 11", "Returns the number of states that are left in the history; ILLEGAL_STATE if it is empty.");
    Press none = new Press();
    Checks.write(none, "0:16l;");
    edge.refused("a new object", none, Checks.ILLEGAL, none::undo);
    Press press = Checks.busy();
    for (int left = 4; left >= 0; left--) {
      edge.same("states left", press.undo(), left);
      edge.same("states counted", press.count(18), left);
    }
    edge.refused("the history is empty", press, Checks.ILLEGAL, press::undo);
    press.set(3, 9);
    edge.same("one more action can be undone", press.undo(), 0);
    edge.refused("the history is empty again", press, Checks.ILLEGAL, press::undo);
  }
}
