import java.math.BigInteger;
import java.util.ArrayDeque;
import java.util.ArrayList;
import java.util.Deque;
import java.util.List;

/** The document's promises, written cell by cell as it tells them, to compare the press with. */
final class PressModel {
  private static final int INVALID = -1001;
  private static final int ILLEGAL = -1002;
  private static final int CAPACITY = -1003;
  private static final int NONE = -1009;
  private static final int[][] STEPS = {{1, 0}, {-1, 0}, {0, 1}, {0, -1}};

  /** Picture and blocks. */
  private static final class Work {
    int[][] picture = new int[16][12];
    boolean[][] line = new boolean[16][12];
    int[][] wear = new int[16][12];
    boolean[][] colour = new boolean[16][12];

    Work copy() {
      Work copy = new Work();
      for (int x = 0; x < 16; x++) {
        copy.picture[x] = picture[x].clone();
        copy.line[x] = line[x].clone();
        copy.wear[x] = wear[x].clone();
        copy.colour[x] = colour[x].clone();
      }
      return copy;
    }
  }

  private static final class Whole {
    Work work = new Work();
    int[] settings = {50, 1, 0, 40, 2};
    int px = 0;
    int py = 0;
    int prints = 0;
    List<int[]> log = new ArrayList<>();
    Work[] slots = new Work[2];

    Whole copy() {
      Whole copy = new Whole();
      copy.work = work.copy();
      copy.settings = settings.clone();
      copy.px = px;
      copy.py = py;
      copy.prints = prints;
      copy.log = new ArrayList<>(log);
      copy.slots = slots.clone();
      return copy;
    }
  }

  private record Token(int offset, int sign, BigInteger number, boolean zeroAhead) {
    boolean isNumber() {
      return number != null;
    }
  }

  private static final class TextError extends Exception {
    private static final long serialVersionUID = 1L;
    final int offset;

    TextError(int offset) {
      this.offset = offset;
    }
  }

  private Whole now = new Whole();
  private final Deque<Whole> history = new ArrayDeque<>();
  private final StringBuilder text = new StringBuilder();

  /** Calls the method with this number, in the order of the document's face. */
  int call(int method, int[] a) {
    switch (method) {
      case 0: return paint(a[0], a[1], a[2], a[3], a[4]);
      case 1: return cut(a[0]);
      case 2: return carve(a[0], a[1], a[2], a[3]);
      case 3: return plug(a[0], a[1]);
      case 4: return setPins(a[0], a[1]);
      case 5: return set(a[0], a[1]);
      case 6: return print(a[0]);
      case 7: return take(a[0]);
      case 8: return restore(a[0]);
      case 9: return undo();
      case 10: return append(a[0]);
      case 11: return clearText();
      case 12: return load();
      case 13: return count(a[0]);
      case 14: return cell(a[0], a[1], a[2]);
      case 15: return printed(a[0], a[1], a[2], a[3]);
      case 16: return proof(a[0], a[1]);
      case 17: return faults(a[0], a[1], a[2]);
      case 18: return why(a[0], a[1]);
      case 19: return tolerance();
      case 20: return trapFor(a[0]);
      case 21: return bestPins(a[0]);
      default: return printsLeft();
    }
  }

  private void action() {
    history.addLast(now.copy());
    if (history.size() == 6) {
      history.removeFirst();
    }
  }

  private static boolean out(int value, int least, int greatest) {
    return value < least || value > greatest;
  }

  private static boolean outside(int x, int y) {
    return out(x, 0, 15) || out(y, 0, 11);
  }

  private interface Test {
    boolean is(int x, int y);
  }

  private static int cells(Test test) {
    int cells = 0;
    for (int x = 0; x < 16; x++) {
      for (int y = 0; y < 12; y++) {
        if (test.is(x, y)) {
          cells++;
        }
      }
    }
    return cells;
  }

  private int kinds(int kind) {
    return cells((x, y) -> now.work.picture[x][y] == kind);
  }

  private boolean worn(int x, int y) {
    return now.work.line[x][y] && now.work.wear[x][y] > now.settings[3];
  }

  private boolean whole(int x, int y) {
    return !outside(x, y) && now.work.line[x][y] && !worn(x, y);
  }

  private static boolean shifted(boolean[][] block, int x, int y, int sx, int sy) {
    return !outside(x - sx, y - sy) && block[x - sx][y - sy];
  }

  private int sx() {
    return now.px + towardZero((now.settings[0] - 50) * now.settings[1]);
  }

  private int sy() {
    return now.py + towardZero((now.settings[0] - 50) * now.settings[2]);
  }

  private static int towardZero(int product) {
    int size = Math.abs(product) / 50;
    return product < 0 ? -size : size;
  }

  private int gaps(int sx, int sy) {
    return cells((x, y) -> now.work.picture[x][y] != 0 && !whole(x, y) && !shifted(now.work.colour, x, y, sx, sy));
  }

  private int spills(int sx, int sy) {
    return cells((x, y) -> now.work.picture[x][y] == 0 && shifted(now.work.colour, x, y, sx, sy));
  }

  private int lost() {
    return cells((x, y) -> now.work.picture[x][y] == 2 && !whole(x, y));
  }

  private int paint(int left, int top, int width, int height, int kind) {
    if (outside(left, top) || out(width, 1, 16 - left) || out(height, 1, 12 - top) || out(kind, 0, 2)) {
      return INVALID;
    }
    action();
    int changed = cells((x, y) -> x >= left && x < left + width && y >= top && y < top + height && now.work.picture[x][y] != kind);
    for (int x = left; x < left + width; x++) {
      for (int y = top; y < top + height; y++) {
        now.work.picture[x][y] = kind;
      }
    }
    return changed;
  }

  /** The steps that each cell is away from colour, through lines; 99 for those that can't be reached. */
  private static int[][] stepsFromColour(int[][] picture) {
    int[][] steps = new int[16][12];
    Deque<int[]> open = new ArrayDeque<>();
    for (int x = 0; x < 16; x++) {
      for (int y = 0; y < 12; y++) {
        steps[x][y] = picture[x][y] == 1 ? 0 : 99;
        if (picture[x][y] == 1) {
          open.add(new int[] {x, y});
        }
      }
    }
    while (!open.isEmpty()) {
      int[] at = open.removeFirst();
      for (int[] step : STEPS) {
        int x = at[0] + step[0];
        int y = at[1] + step[1];
        if (!outside(x, y) && picture[x][y] == 2 && steps[x][y] == 99) {
          steps[x][y] = steps[at[0]][at[1]] + 1;
          open.addLast(new int[] {x, y});
        }
      }
    }
    return steps;
  }

  private void cutBlocks(int trap) {
    int[][] steps = stepsFromColour(now.work.picture);
    for (int x = 0; x < 16; x++) {
      for (int y = 0; y < 12; y++) {
        now.work.line[x][y] = now.work.picture[x][y] == 2;
        now.work.wear[x][y] = 0;
        now.work.colour[x][y] = steps[x][y] <= trap;
      }
    }
  }

  private int cut(int trap) {
    if (out(trap, 0, 4)) {
      return INVALID;
    }
    action();
    cutBlocks(trap);
    return count(14);
  }

  private int carve(int block, int x, int y, int is) {
    if (out(block, 0, 1) || outside(x, y) || out(is, 0, 1)) {
      return INVALID;
    }
    action();
    boolean[][] cells = block == 0 ? now.work.line : now.work.colour;
    int before = cells[x][y] ? 1 : 0;
    cells[x][y] = is == 1;
    if (block == 0) {
      now.work.wear[x][y] = 0;
    }
    return before;
  }

  private int plug(int x, int y) {
    if (outside(x, y)) {
      return INVALID;
    }
    if (!worn(x, y)) {
      return ILLEGAL;
    }
    action();
    now.work.wear[x][y] = 0;
    return cells(this::worn);
  }

  private int setPins(int px, int py) {
    if (out(px, -4, 4) || out(py, -4, 4)) {
      return INVALID;
    }
    action();
    now.px = px;
    now.py = py;
    return gaps(sx(), sy());
  }

  private int set(int what, int value) {
    int[] least = {0, -4, -4, 1, 0};
    int[] greatest = {100, 4, 4, 1000, 10};
    if (out(what, 0, 4) || out(value, least[what], greatest[what])) {
      return INVALID;
    }
    action();
    int before = now.settings[what];
    now.settings[what] = value;
    return before;
  }

  private void wear() {
    int[][] more = new int[16][12];
    for (int x = 0; x < 16; x++) {
      for (int y = 0; y < 12; y++) {
        if (whole(x, y)) {
          more[x][y] = 1;
          for (int[] step : STEPS) {
            more[x][y] += whole(x + step[0], y + step[1]) ? 0 : 1;
          }
        }
      }
    }
    for (int x = 0; x < 16; x++) {
      for (int y = 0; y < 12; y++) {
        now.work.wear[x][y] += more[x][y];
      }
    }
  }

  private int print(int prints) {
    if (out(prints, 1, 100)) {
      return INVALID;
    }
    if (now.prints + prints > 5000) {
      return CAPACITY;
    }
    action();
    int gaps = 0;
    for (int i = 0; i < prints; i++) {
      int sx = sx();
      int sy = sy();
      now.prints++;
      now.log.add(0, new int[] {now.prints, sx + 8, sy + 8, gaps(sx, sy), spills(sx, sy), lost()});
      if (now.log.size() > 12) {
        now.log.remove(12);
      }
      gaps += gaps(sx, sy);
      wear();
      now.settings[0] = Math.max(0, now.settings[0] - now.settings[4]);
    }
    return gaps;
  }

  private int take(int slot) {
    if (out(slot, 0, 1)) {
      return INVALID;
    }
    action();
    now.slots[slot] = now.work.copy();
    return 192 - kinds(0);
  }

  private int restore(int slot) {
    if (out(slot, 0, 1)) {
      return INVALID;
    }
    if (now.slots[slot] == null) {
      return ILLEGAL;
    }
    action();
    now.work = now.slots[slot].copy();
    return 192 - kinds(0);
  }

  private int undo() {
    if (history.isEmpty()) {
      return ILLEGAL;
    }
    now = history.removeLast();
    return history.size();
  }

  private int append(int character) {
    if (out(character, 1, 255)) {
      return INVALID;
    }
    if (text.length() == 140) {
      return CAPACITY;
    }
    text.append((char) character);
    return text.length();
  }

  private int clearText() {
    int before = text.length();
    text.setLength(0);
    return before;
  }

  private List<Token> tokens() {
    List<Token> tokens = new ArrayList<>();
    for (int i = 0; i < text.length(); i++) {
      char sign = text.charAt(i);
      int start = i;
      if (sign >= '0' && sign <= '9') {
        while (i + 1 < text.length() && text.charAt(i + 1) >= '0' && text.charAt(i + 1) <= '9') {
          i++;
        }
        tokens.add(new Token(start, 0, new BigInteger(text.substring(start, i + 1)), sign == '0' && i > start));
      } else if (sign != ' ') {
        tokens.add(new Token(start, sign, null, false));
      }
    }
    tokens.add(new Token(text.length(), 0, null, false));
    return tokens;
  }

  private static int numberOf(Token token, int least, int greatest) throws TextError {
    boolean right = token.isNumber() && !token.zeroAhead && token.number.compareTo(BigInteger.valueOf(least)) >= 0
        && token.number.compareTo(BigInteger.valueOf(greatest)) <= 0;
    if (!right) {
      throw new TextError(token.offset);
    }
    return token.number.intValue();
  }

  private int readRows(int[][] picture) throws TextError {
    List<Token> tokens = tokens();
    int at = 0;
    int items = 0;
    while (at < tokens.size() - 1) {
      int row = numberOf(tokens.get(at++), 0, 11);
      if (tokens.get(at).sign != ':') {
        throw new TextError(tokens.get(at).offset);
      }
      at++;
      int x = 0;
      while (tokens.get(at).sign != ';') {
        int cells = numberOf(tokens.get(at), 1, 16);
        if (x + cells > 16) {
          throw new TextError(tokens.get(at).offset);
        }
        at++;
        int kind = tokens.get(at).sign == 0 ? -1 : "wcl".indexOf(tokens.get(at).sign);
        if (kind < 0) {
          throw new TextError(tokens.get(at).offset);
        }
        at++;
        for (int end = x + cells; x < end; x++) {
          picture[x][row] = kind;
        }
      }
      if (x < 16) {
        throw new TextError(tokens.get(at).offset);
      }
      at++;
      items++;
    }
    return items;
  }

  private int load() {
    int[][] picture = now.work.copy().picture;
    try {
      int items = readRows(picture);
      action();
      now.work.picture = picture;
      text.setLength(0);
      return items;
    } catch (TextError e) {
      return -2000 - e.offset;
    }
  }

  private int count(int what) {
    int[] numbers = {now.prints, now.settings[0], now.settings[1], now.settings[2], now.settings[3], now.settings[4],
        now.px, now.py, sx(), sy(), kinds(0), kinds(1), kinds(2), cells((x, y) -> now.work.line[x][y]),
        cells((x, y) -> now.work.colour[x][y]), cells(this::worn), now.log.size(),
        (now.slots[0] == null ? 0 : 1) + (now.slots[1] == null ? 0 : 1), history.size(), text.length()};
    return out(what, 0, 19) ? INVALID : numbers[what];
  }

  private int cell(int x, int y, int what) {
    if (outside(x, y) || out(what, 0, 4)) {
      return INVALID;
    }
    int[] numbers = {now.work.picture[x][y], now.work.line[x][y] ? 1 : 0, now.work.colour[x][y] ? 1 : 0,
        now.work.line[x][y] ? now.work.wear[x][y] : 0, worn(x, y) ? 1 : 0};
    return numbers[what];
  }

  private int printed(int x, int y, int sx, int sy) {
    if (outside(x, y) || out(sx, -8, 8) || out(sy, -8, 8)) {
      return INVALID;
    }
    return (shifted(now.work.colour, x, y, sx, sy) ? 1 : 0) + (whole(x, y) ? 2 : 0);
  }

  private int proof(int back, int what) {
    if (back < 0 || out(what, 0, 5)) {
      return INVALID;
    }
    return back >= now.log.size() ? NONE : now.log.get(back)[what];
  }

  private int faults(int sx, int sy, int what) {
    if (out(sx, -8, 8) || out(sy, -8, 8) || out(what, 0, 2)) {
      return INVALID;
    }
    return new int[] {gaps(sx, sy), spills(sx, sy), lost()}[what];
  }

  private int why(int x, int y) {
    if (outside(x, y)) {
      return INVALID;
    }
    int kind = now.work.picture[x][y];
    int ink = printed(x, y, sx(), sy());
    if (kind == 2 && ink >= 2 || kind == ink && kind < 2) {
      return 0;
    }
    if (kind != 0 && ink == 0) {
      return worn(x, y) ? 1 : 2;
    }
    if (kind == 0 && ink % 2 == 1) {
      return 3;
    }
    return kind == 2 ? 5 : 4;
  }

  private int tolerance() {
    int r = 4;
    for (int sx = -4; sx <= 4; sx++) {
      for (int sy = -4; sy <= 4; sy++) {
        if (gaps(sx, sy) > 0) {
          r = Math.min(r, Math.max(Math.abs(sx), Math.abs(sy)) - 1);
        }
      }
    }
    return r < 0 ? NONE : r;
  }

  private int trapFor(int r) {
    if (out(r, 0, 4)) {
      return INVALID;
    }
    Whole before = now.copy();
    int answer = NONE;
    for (int trap = 4; trap >= 0; trap--) {
      cutBlocks(trap);
      answer = tolerance() >= r ? trap : answer;
    }
    now = before;
    return answer;
  }

  private int bestPins(int what) {
    if (out(what, 0, 2)) {
      return INVALID;
    }
    int px = now.px;
    int py = now.py;
    int[] best = null;
    for (now.px = -4; now.px <= 4; now.px++) {
      for (now.py = -4; now.py <= 4; now.py++) {
        int faults = gaps(sx(), sy()) + spills(sx(), sy());
        if (best == null || faults < best[2]) {
          best = new int[] {now.px + 4, now.py + 4, faults};
        }
      }
    }
    now.px = px;
    now.py = py;
    return best[what];
  }

  private int printsLeft() {
    Whole before = now.copy();
    int wornBefore = cells(this::worn);
    int answer = NONE;
    for (int prints = 1; prints <= 500 && answer == NONE; prints++) {
      wear();
      if (cells(this::worn) > wornBefore) {
        answer = prints;
      }
    }
    now = before;
    return answer;
  }
}
