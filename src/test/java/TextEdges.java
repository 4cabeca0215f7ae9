/** The boundary cases of the text, and of promises 12 to 14. */
final class TextEdges {
  private final Edge edge;

  TextEdges(Edge edge) {
    this.edge = edge;
  }

  void check() {
    longestText();
    items();
    runs();
    rowsThatAreNotTold();
    rowNumbers();
    numbersAreMaximal();
    zeroAhead();
    spaces();
    fromLeftToRight();
    firstCharacterThatIsNotAllowed();
    numbersOutOfRange();
    tooManyCells();
    fewerCells();
    textEnds();
    appendCharacters();
    appendAnswers();
    clearTextAnswers();
    loadIsOneAction();
    loadAnswers();
    loadErrors();
  }

  /** What a load answers whose text has its error at the offset. */
  private static int errorAt(int offset) {
    return -2000 - offset;
  }

  private void loads(String text, int due) {
    edge.same("load of '" + text + "'", Checks.loadAnew(text), due);
  }

  /** The text has its error there, and the refused load changes nothing. */
  private void fails(String text, int offset) {
    Press press = Checks.busy();
    press.clearText();
    Checks.write(press, text);
    edge.refused("load of '" + text + "'", press, errorAt(offset), press::load);
    edge.same("the text is kept", press.count(19), text.length());
  }

  private static Press read(String text) {
    Press press = new Press();
    Checks.load(press, text);
    return press;
  }

  private void row(Press press, int y, String due) {
    for (int x = 0; x < 16; x++) {
      edge.same("cell " + x + ", " + y, press.cell(x, y, 0), "wcl".indexOf(due.charAt(x)));
    }
  }

  private static String repeated(String part, int length) {
    StringBuilder text = new StringBuilder();
    while (text.length() < length) {
      text.append(part);
    }
    return text.substring(0, length);
  }

  private void longestText() {
    edge.says("Text", "Rows of the picture can be read from a text of at most 140 characters, a sequence of items (possibly none), "
        + "each of which ends with \";\":");
    String rows = repeated("4:16l;", 138);
    loads(rows + "  ", 23);
    loads("  " + rows, 23);
    loads(rows + "11", errorAt(140));
    loads(repeated(" ", 140), 0);
    loads(repeated(" ", 139) + "x", errorAt(139));
    loads(repeated(" ", 134) + "4:16l;", 1);
    loads(repeated(" ", 135) + "4:16l", errorAt(140));
    Press press = new Press();
    Checks.write(press, rows + " 4");
    edge.refused("a character too many", press, Checks.CAPACITY, () -> press.append(';'));
    edge.same("the text without it", press.load(), errorAt(140));
  }

  private void items() {
    edge.says("Text", "a sequence of items (possibly none), each of which ends with \";\":");
    loads("", 0);
    loads(" ", 0);
    loads("0:16w;", 1);
    loads("0:16w;1:16w;", 2);
    loads("0:16w;0:16w;0:16w;", 3);
    loads("0:16w", errorAt(5));
    loads("0:16w1:16w;", errorAt(5));
    loads("0:16w,1:16w;", errorAt(5));
    loads(";", errorAt(0));
    loads("0:16w;;", errorAt(6));
  }

  private void runs() {
    edge.says("Text", "ROW \":\" and runs, each a NUMBER, 1 to 16, and \"w\", \"c\" or \"l\", for so many cells that are white, "
        + "colour or lines, from the left to the right; all runs of a row together have 16 cells");
    row(read("0:16c;"), 0, "cccccccccccccccc");
    row(read("11:16l;"), 11, "llllllllllllllll");
    row(read("5:16l;5:16w;"), 5, "wwwwwwwwwwwwwwww");
    row(read("7:1l15c;"), 7, "lccccccccccccccc");
    row(read("7:15l1c;"), 7, "lllllllllllllllc");
    row(read("7:1c2l3w4c5l1w;"), 7, "cllwwwcccclllllw");
    row(read("7:1c1c1l1l1w1w1c1c1l1l1w1w1c1c1l1l;"), 7, "ccllwwccllwwccll");
    for (int cells = 1; cells <= 15; cells++) {
      loads("0:" + cells + "c" + (16 - cells) + "l;", 1);
      edge.same("the run's last cell", read("0:" + cells + "c" + (16 - cells) + "l;").cell(cells - 1, 0, 0), 1);
      edge.same("the next run's first cell", read("0:" + cells + "c" + (16 - cells) + "l;").cell(cells, 0, 0), 2);
      loads("0:" + cells + "c;", errorAt(cells < 10 ? 4 : 5));
      loads("0:" + cells + "c" + (17 - cells) + "l;", errorAt(cells < 10 ? 4 : 5));
    }
    loads("0:16W;", errorAt(4));
    loads("0:16C;", errorAt(4));
    loads("0:16L;", errorAt(4));
    loads("0:w;", errorAt(2));
    loads("0:16ww;", errorAt(5));
  }

  private void rowsThatAreNotTold() {
    edge.says("Text", "Rows that are not told stay; the blocks stay.");
    Press press = Checks.busy();
    press.clearText();
    press.cut(1);
    press.print(1);
    Checks.write(press, "3:16w;11:16c;");
    Press before = press.again();
    press.load();
    int changed = 0;
    for (int i = 0; i < 192; i++) {
      changed += press.cell(i % 16, i / 16, 0) == before.cell(i % 16, i / 16, 0) ? 0 : 1;
    }
    edge.same("cells that changed, six lines in row 3 and all in row 11", changed, 6 + 16);
    edge.same("the line block", press.count(13), 18);
    edge.same("the colour block", press.count(14), before.count(14));
    edge.same("the wear", press.cell(3, 3, 3), 3);
  }

  private void rowNumbers() {
    edge.says("Text", "ROW is 0 to 11;");
    for (int y = 0; y <= 11; y++) {
      row(read(y + ":16l;"), y, "llllllllllllllll");
      edge.same("lines in row " + y + " alone", read(y + ":16l;").count(12), 16);
    }
    fails("12:16l;", 0);
    fails("19:16l;", 0);
    fails("100:16l;", 0);
    fails("0:16l;12:16l;", 6);
    fails("-1:16l;", 0);
  }

  private void numbersAreMaximal() {
    edge.says("Text", "numbers are maximal runs of digits,");
    // No part of a longer run of digits is taken for a number.
    fails("111:16l;", 0);
    fails("0:161l;", 2);
    fails("0:15l11l;", 5);
    fails("0:8c88l;", 4);
    fails("0:17", 2);
    fails("0:4294967297w15w;", 2);
    fails("4294967296:16w;", 0);
    fails("0:18446744073709551617w15w;", 2);
    fails("0:" + repeated("9", 138), 2);
    loads("11:11w5c;", 1);
  }

  private void zeroAhead() {
    edge.says("Text", "which must not begin with 0 unless they are the single digit 0.");
    loads("0:16w;", 1);
    fails("00:16w;", 0);
    fails("01:16w;", 0);
    fails("011:16w;", 0);
    fails("0:016w;", 2);
    fails("0:01w15w;", 2);
    fails("0:15w01w;", 5);
    fails("0:0w16w;", 2);
    fails("0:16w0c;", 5);
    fails("0 0:16w;", 2);
  }

  private void spaces() {
    edge.says("Text", "Spaces (code 32) may stand everywhere except within numbers.");
    String item = " 1 : 6 w 10 c ; 10 : 16 l ; ";
    loads(item, 2);
    loads(item.replace(" ", "    "), 2);
    row(read(item), 1, "wwwwwwcccccccccc");
    row(read(item), 10, "llllllllllllllll");
    for (int place = 0; place <= 15; place++) {
      String text = "11:16w;0:15c1l;".substring(0, place) + " " + "11:16w;0:15c1l;".substring(place);
      int within = place == 1 ? errorAt(2) : place == 4 ? errorAt(5) : place == 10 ? errorAt(11) : 2;
      loads(text, within);
    }
    int[] others = {9, 10, 11, 12, 13, 31, 33, 160, 0x85};
    for (int other : others) {
      loads("0:" + (char) other + "16w;", errorAt(2));
      loads("0:16w;" + (char) other, errorAt(6));
    }
  }

  private void fromLeftToRight() {
    edge.says("Text", "The text is read from left to right, and the items are carried out in their order.");
    row(read("5:16l;5:8c8w;"), 5, "ccccccccwwwwwwww");
    row(read("5:8c8w;5:16l;"), 5, "llllllllllllllll");
    row(read("5:16l;6:16l;5:16c;"), 5, "cccccccccccccccc");
    row(read("5:16l;6:16l;5:16c;"), 6, "llllllllllllllll");
    fails("5:16l;5:17l;5:0l;", 8);
  }

  /** Behind each of the beginnings every character is tried: those that are not allowed there, and those that are. */
  private void firstCharacterThatIsNotAllowed() {
    edge.says("Text", "The error position is the offset (from 0) of the first character that is not allowed where it stands;");
    String[] beginnings = {"", " ", "2", "2 ", "2:", "2: ", "2:3", "2:3 ", "2:3w", "2:3w ", "2:16w", "2:16w ", "2:16w;", "2:16w; ",
        "11", "2:16", "2:9l7"};
    String[] allowed = {" 0123456789", " 0123456789", " :", " :", " 123456789", " 123456789", " wcl", " wcl", " 123456789",
        " 123456789", " ;", " ;", " 0123456789", " 0123456789", " :", " wcl", " wcl"};
    for (int i = 0; i < beginnings.length; i++) {
      for (int character = 1; character <= 255; character++) {
        boolean digit = character >= '0' && character <= '9';
        boolean behindDigit = beginnings[i].matches(".*[0-9]");
        if (!(digit && behindDigit)) {
          boolean may = allowed[i].indexOf(character) >= 0;
          String text = beginnings[i] + (char) character;
          int offset = beginnings[i].length() + (may ? 1 : 0);
          boolean whole = text.matches(" *|2:16w ?; *");
          loads(text, whole ? text.indexOf(';') < 0 ? 0 : 1 : errorAt(offset));
        }
      }
    }
  }

  private void numbersOutOfRange() {
    edge.says("Text", "for a number that is out of its range or has a 0 ahead, its first digit;");
    fails("12", 0);
    fails("  12", 2);
    fails("12:", 0);
    fails("12x", 0);
    fails("00", 0);
    fails("01", 0);
    fails("0:0", 2);
    fails("0:0w", 2);
    fails("0:17", 2);
    fails("0:17x", 2);
    fails("0: 17 w", 3);
    fails("0:01", 2);
    fails("0:8w 00", 5);
    fails("0:8w 17", 5);
    fails("0:8w 17 x", 5);
    fails("0:16w;   99:", 9);
  }

  private void tooManyCells() {
    edge.says("Text", "for a run by which the row would have more than 16 cells, the first digit of its number, too "
        + "(whatever follows it);");
    fails("0:8w9l;", 4);
    fails("0:8w9", 4);
    fails("0:8w9x", 4);
    fails("0:8w9;", 4);
    fails("0:8w 9 ", 5);
    fails("0:8w16", 4);
    fails("0:15w2c;", 5);
    fails("0:15w10c;", 5);
    fails("0:16w1", 5);
    fails("0:16w1c;", 5);
    fails("0:16w 16c;", 6);
    fails("0:" + repeated("1w", 34) + ";", 34);
    fails("0:" + repeated("1w", 30) + "2w;", 32);
    loads("0:15w1c;", 1);
    loads("0:8w8l;", 1);
    loads("0:" + repeated("1w", 32) + ";", 1);
  }

  private void fewerCells() {
    edge.says("Text", "and the \";\" of a row with fewer than 16 cells.");
    fails("0:;", 2);
    fails("0: ;", 3);
    fails("0:1w;", 4);
    fails("0:15w;", 5);
    fails("0:15w ; ", 6);
    fails("0:8w7l;1:16w;", 6);
    fails("1:16w;0:15c;", 11);
    fails("0:" + repeated("1w", 30) + ";", 32);
  }

  private void textEnds() {
    edge.says("Text", "If the text ends where something is missing, it is the length of the text.");
    String text = "2 : 3w 13 l ; 10:16c; ";
    for (int length = 0; length <= text.length(); length++) {
      String part = text.substring(0, length);
      boolean whole = length == 0 || part.endsWith("; ") || part.endsWith(";");
      loads(part, whole ? part.length() - part.replace(";", "").length() : errorAt(length));
    }
    fails("0", 1);
    fails("0 ", 2);
    fails("0:", 2);
    fails("0:1", 3);
    fails("0:16w", 5);
    fails("0:16w   ", 8);
    fails("0:1w", 4);
    fails(repeated("0:16w;", 138) + "0:", 140);
  }

  private void appendCharacters() {
    edge.says("Promise 12", "`character`: character code, 1 to 255");
    edge.range(1, 255, Press::append);
    edge.says("Promise 12", "Appends a character to the text.");
    for (int character = 1; character <= 255; character++) {
      int due = character == ' ' ? 0 : character >= '0' && character <= '9' ? errorAt(1) : errorAt(0);
      loads("" + (char) character, due);
    }
  }

  private void appendAnswers() {
    edge.says("Promise 12", "Returns the new length of the text; INVALID_ARGUMENT if character is out of range; "
        + "CAPACITY_EXCEEDED if the text already has 140 characters.");
    Press press = new Press();
    for (int length = 1; length <= 140; length++) {
      edge.same("the length", press.append(' '), length);
    }
    edge.refused("a full text", press, Checks.CAPACITY, () -> press.append(' '));
    edge.refused("a full text, the least character", press, Checks.CAPACITY, () -> press.append(1));
    edge.refused("a full text, the greatest character", press, Checks.CAPACITY, () -> press.append(255));
    edge.refused("a character out of range comes first", press, Checks.INVALID, () -> press.append(0));
    edge.refused("a character out of range comes first", press, Checks.INVALID, () -> press.append(256));
    edge.same("the full text is read", press.load(), 0);
    edge.same("there is room again", press.append(' '), 1);
    edge.same("append is no action", press.count(18), 1);
  }

  private void clearTextAnswers() {
    edge.says("Promise 13", "Makes the text empty. Returns the previous length of the text.");
    Press press = new Press();
    edge.same("an empty text", press.clearText(), 0);
    press.append('x');
    edge.same("one character", press.clearText(), 1);
    edge.same("it is empty", press.clearText(), 0);
    Checks.write(press, repeated("0:16w;", 140));
    edge.same("a full text", press.clearText(), 140);
    edge.same("there is room again", press.append('0'), 1);
    edge.same("nothing of the old text is read", press.load(), errorAt(1));
    edge.same("clearText is no action", press.count(18), 0);
  }

  private void loadIsOneAction() {
    edge.says("Promise 14", "Reads the text. The text becomes empty. This is one action, also without items.");
    Press press = new Press();
    edge.same("without items", press.load(), 0);
    edge.same("it is recorded", press.count(18), 1);
    edge.same("twelve items", Checks.load(press,
        "0:16c;1:16c;2:16c;3:16c;4:16c;5:16c;6:16c;7:16c;8:16c;9:16c;10:16c;11:16c;"), 12);
    edge.same("one state more", press.count(18), 2);
    edge.same("the text is empty", press.count(19), 0);
    edge.same("an empty text is read again", press.load(), 0);
    edge.same("the picture stays then", press.count(11), 192);
    press.undo();
    edge.same("undo of all twelve", press.undo(), 1);
    edge.same("the picture is white", press.count(10), 192);
    edge.same("undo of the first load", press.undo(), 0);
  }

  private void loadAnswers() {
    edge.says("Promise 14", "Returns the number of items;");
    loads("", 0);
    loads("3:16l;", 1);
    loads(repeated("3:16l;", 138), 23);
    loads("3:" + repeated("1l", 32) + ";", 1);
  }

  private void loadErrors() {
    edge.says("Promise 14", "-2000 minus the error position if the text has an error (then nothing changes, and the text is kept).");
    fails("x", 0);
    fails(repeated(" ", 139) + "x", 139);
    fails(repeated(" ", 139) + "0", 140);
    // Good rows ahead of the error are not carried out.
    fails("0:16l;1:16c;2:16l;3:15c;", 23);
    Press press = Checks.busy();
    press.clearText();
    Checks.write(press, "0:16l;1:16c;2:");
    edge.refused("a row that is not ended", press, errorAt(14), press::load);
    Checks.write(press, "16c;");
    edge.same("the text goes on where it was", press.load(), 3);
    edge.same("all three rows are read", press.cell(15, 0, 0) * 100 + press.cell(15, 1, 0) * 10 + press.cell(15, 2, 0), 211);
    edge.same("a load that succeeds is recorded", press.undo(), 4);
  }
}
