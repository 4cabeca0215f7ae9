/** Promises 12 to 14: append, clearText and load. */
public final class TextTest {
  private static final Checks CHECKS = new Checks("TextTest");

  public static void main(String[] args) {
    promise12Append();
    promise13ClearText();
    promise14Load();
    promise14LoadOrder();
    promise14LoadLongest();
    promise14LoadErrors();
    promise14EverySignOnEveryPlace();
    CHECKS.end();
  }

  private static void promise12Append() {
    Press press = new Press();
    CHECKS.same("the least character", press.append(1), 1);
    CHECKS.same("the greatest character", press.append(255), 2);
    CHECKS.invalid("character", press, new int[] {0, -1, 256, Integer.MIN_VALUE, Integer.MAX_VALUE}, press::append);
    for (int i = 3; i <= 140; i++) {
      CHECKS.same("append", press.append(32), i);
    }
    CHECKS.refused("a full text", press, Checks.CAPACITY, () -> press.append(32));
    CHECKS.refused("a wrong character comes first", press, Checks.INVALID, () -> press.append(0));
    CHECKS.same("append is no action", press.count(18), 0);
  }

  private static void promise13ClearText() {
    Press press = new Press();
    CHECKS.same("an empty text", press.clearText(), 0);
    Checks.write(press, "1:3w");
    CHECKS.same("a text of four", press.clearText(), 4);
    CHECKS.same("it is empty then", press.count(19), 0);
    Checks.write(press, "1:16w;");
    CHECKS.same("the new text alone counts", press.load(), 1);
    CHECKS.same("clearText is no action", press.count(18), 1);
  }

  private static void promise14Load() {
    Press press = Checks.framed(1);
    press.paint(0, 0, 16, 1, 2);
    CHECKS.same("an empty text", Checks.load(press, ""), 0);
    CHECKS.same("it is an action, too", press.count(18), 5);
    CHECKS.same("spaces alone", Checks.load(press, "   "), 0);
    CHECKS.same("the text is empty then", press.count(19), 0);
    CHECKS.same("one row", Checks.load(press, "11:1c2l3w4c5l1w;"), 1);
    int[] due = {1, 2, 2, 0, 0, 0, 1, 1, 1, 1, 2, 2, 2, 2, 2, 0};
    for (int x = 0; x < 16; x++) {
      CHECKS.same("column " + x, press.cell(x, 11, 0), due[x]);
    }
    CHECKS.same("rows that are not told stay", press.count(12), 16 + 18 + 7);
    CHECKS.same("the line block stays", press.count(13), 18);
    CHECKS.same("the colour block stays", press.count(14), 26);
    CHECKS.same("many rows", Checks.load(press, "0:16w;1:16c;2:8l8w;3:16w;4:16w;5:16w;6:16w;7:16w;8:16w;9:16w;10:16w;11:15w1l;"), 12);
    CHECKS.same("colour then", press.count(11), 16);
    CHECKS.same("lines then", press.count(12), 9);
    CHECKS.same("the last cell", press.cell(15, 11, 0), 2);
    CHECKS.same("spaces", Checks.load(press, "  3  :  1 c 15  l ; 4 : 16 c ;  "), 2);
    CHECKS.same("a cell", press.cell(0, 3, 0), 1);
    CHECKS.same("a cell", press.cell(15, 3, 0), 2);
    CHECKS.same("runs of one cell", Checks.load(press, "0:1w1c1l1w1c1l1w1c1l1w1c1l1w1c1l1w;"), 1);
  }

  private static void promise14LoadOrder() {
    Press press = new Press();
    CHECKS.same("a row told twice", Checks.load(press, "5:16l;5:8c8w;"), 2);
    CHECKS.same("the later one counts", press.count(12), 0);
    CHECKS.same("the later one counts", press.count(11), 8);
    press.paint(0, 5, 1, 1, 2);
    press.paint(0, 4, 3, 1, 1);
    CHECKS.same("what was read before is forgotten", Checks.load(press, "6:16c;"), 1);
    CHECKS.same("the painted colour stays", press.count(11), 3 + 7 + 16);
    CHECKS.same("the painted line stays", press.count(12), 1);
    CHECKS.same("an error behind a good row", Checks.load(press, "5:16l;6:16l;7:"), -2014);
    CHECKS.same("nothing changed", press.count(12), 1);
    CHECKS.same("the text is kept", press.count(19), 14);
    press.append('1');
    press.append('6');
    press.append('l');
    press.append(';');
    CHECKS.same("it goes on", press.load(), 3);
    CHECKS.same("all rows are read", press.count(12), 48);
    CHECKS.same("the other rows stay", press.count(11), 3);
  }

  private static void promise14LoadLongest() {
    StringBuilder text = new StringBuilder();
    for (int i = 0; i < 23; i++) {
      text.append(i % 10).append(":16l;");
    }
    text.append("  ");
    CHECKS.same("140 characters", Checks.loadAnew(text.toString()), 23);
    String missing = text.substring(0, 138) + "1:";
    CHECKS.same("a full text that ends too early", Checks.loadAnew(missing), -2140);
    StringBuilder digits = new StringBuilder("1:");
    while (digits.length() < 140) {
      digits.append('9');
    }
    CHECKS.same("a number that is far too great", Checks.loadAnew(digits.toString()), -2002);
    String overInt = "0:4294967297w15w;";
    CHECKS.same("a number that an int would wrap round to 1", Checks.loadAnew(overInt), -2002);
    CHECKS.same("a row that an int would wrap round to 0", Checks.loadAnew("4294967296:16w;"), -2000);
  }

  private static void promise14LoadErrors() {
    String[] texts = {"0", "12:16w;", "12", "0:", "0:16;", "0:17w;", "0:17", "0:016w;", "0:0w;", "0:0", "00:16w;", "01:16w;",
        "0:8w9l;", "0:8w9", "0:8w8l", "0:8w8l1c;", "0:8w8l0c;", "0:8w8lc;", "0:8w7l;", "0:16x;", "0:16w;0:;", "#", ";", ":",
        "0:;", "w", "-1:16w;", "0;16w;", "0 :16w", "1 1:16w;", "0:1 6w;", "0:16 w ", " 0: 16w; x", "0:16W;", "0::16w;",
        "0:16w,", "0:16ww;", "0:16w;;", "\t0:16w;", "0:16w;\n", "0:1", "0:16", "0:w16;", "0:4w04c;", "0:4w13c",
        "0:4w 13 c", "0 ", "100:16w;", "0:15w1l;11:1w16c;", "\u00b2:16w;", "0:16\u00ec;", "0:8w 8l 1", "999999999999:"};
    int[] due = {1, 0, 0, 2, 4, 2, 2, 2, 2, 2, 0, 0,
        4, 4, 6, 6, 6, 6, 6, 4, 8, 0, 0, 0,
        2, 0, 0, 1, 6, 2, 4, 7, 9, 4, 2,
        5, 5, 6, 0, 6, 3, 4, 2, 4, 4,
        5, 2, 0, 13, 0, 4, 8, 0};
    CHECKS.same("as many answers as texts", due.length, texts.length);
    for (int i = 0; i < texts.length; i++) {
      Press press = Checks.busy();
      press.clearText();
      Checks.write(press, texts[i]);
      CHECKS.refused("load of \"" + texts[i] + "\"", press, -2000 - due[i], press::load);
      CHECKS.same("the text is kept", press.count(19), texts[i].length());
    }
  }

  /** A good text with one sign put in another's place: the error stands there, or where it shows. */
  private static void promise14EverySignOnEveryPlace() {
    String good = " 7 : 6c 10 l ; ";
    for (int place = 0; place < good.length(); place++) {
      for (int sign = 1; sign <= 255; sign++) {
        if (" 0123456789:;wcl".indexOf(sign) < 0) {
          String text = good.substring(0, place) + (char) sign + good.substring(place + 1);
          CHECKS.same("sign " + sign + " at " + place, Checks.loadAnew(text), -2000 - place);
        }
      }
    }
    CHECKS.same("the good text", Checks.loadAnew(good), 1);
  }
}
