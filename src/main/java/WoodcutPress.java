import java.util.Arrays;

/** A woodcut press with a line block and a colour block; DOC.md says what each call promises. */
public final class WoodcutPress {
    public static final int INVALID_ARGUMENT = -1001;
    public static final int ILLEGAL_STATE = -1002;
    public static final int CAPACITY_EXCEEDED = -1003;
    public static final int NONE = -1009;

    private static final int COLUMNS = 16;
    private static final int ROWS = 12;
    private static final int ALL_COLUMNS = 0xFFFF;
    private static final int SIDES = 4;

    private static final int WHITE = 0;
    private static final int COLOUR = 1;
    private static final int LINE = 2;

    private static final int DAMP = 0;
    private static final int STRETCH_X = 1;
    private static final int STRETCH_Y = 2;
    private static final int HARDNESS = 3;
    private static final int DRYING = 4;
    private static final int SETTINGS = 5;
    private static final int[] FIRST_SETTINGS = {50, 1, 0, 40, 2};
    private static final int[] LEAST_SETTINGS = {0, -4, -4, 1, 0};
    private static final int[] GREATEST_SETTINGS = {100, 4, 4, 1000, 10};
    private static final int MIDDLE_DAMP = 50;

    private static final int GREATEST_PIN = 4;
    private static final int GREATEST_SHIFT = 8;
    private static final int GREATEST_TRAP = 4;
    private static final int GREATEST_TOLERANCE = 4;
    private static final int MOST_PRINTS_AT_ONCE = 100;
    private static final int MOST_PRINTS = 5000;
    private static final int MOST_PRINTS_FORETOLD = 500;

    private static final int SLOTS = 2;
    private static final int MOST_STATES = 5;
    private static final int MOST_PROOFS = 12;
    private static final int PROOF_PARTS = 6;

    private static final int LONGEST_TEXT = 140;
    private static final int GREATEST_CHARACTER = 255;
    private static final int TEXT_ERROR = -2000;
    private static final int NO_NUMBER = -1;

    private final State now;
    private final History history;
    private final Reader reader;
    /** The line block without its worn cells; findInk() makes it true ahead of each use. */
    private final Cells ink;
    /** A colour block that is only tried. */
    private final Cells trial;

    public WoodcutPress() {
        now = new State();
        history = new History();
        reader = new Reader();
        ink = new Cells();
        trial = new Cells();
    }

    // ---- picture and blocks

    public int paint(int x, int y, int width, int height, int kind) {
        if (!isPlace(x, y) || !isWithin(width, 1, COLUMNS - x) || !isWithin(height, 1, ROWS - y)
                || !isWithin(kind, WHITE, LINE)) {
            return INVALID_ARGUMENT;
        }
        history.keep(now);
        return now.blocks.fillArea(x, y, width, height, kind);
    }

    public int cut(int trap) {
        if (!isWithin(trap, 0, GREATEST_TRAP)) {
            return INVALID_ARGUMENT;
        }
        history.keep(now);
        now.blocks.cutAnew(trap);
        return now.blocks.colourBlock.size();
    }

    public int carve(int block, int x, int y, int is) {
        if (!isWithin(block, 0, 1) || !isPlace(x, y) || !isWithin(is, 0, 1)) {
            return INVALID_ARGUMENT;
        }
        history.keep(now);
        Cells carved = block == 0 ? now.blocks.lineBlock : now.blocks.colourBlock;
        int before = oneIf(carved.has(x, y));
        carved.put(x, y, is == 1);
        if (block == 0) {
            now.blocks.clearWear(x, y);
        }
        return before;
    }

    public int plug(int x, int y) {
        if (!isPlace(x, y)) {
            return INVALID_ARGUMENT;
        }
        if (!now.blocks.isWorn(x, y, now.hardness())) {
            return ILLEGAL_STATE;
        }
        history.keep(now);
        now.blocks.clearWear(x, y);
        return wornCells();
    }

    // ---- register and prints

    public int setPins(int px, int py) {
        if (!isWithin(px, -GREATEST_PIN, GREATEST_PIN) || !isWithin(py, -GREATEST_PIN, GREATEST_PIN)) {
            return INVALID_ARGUMENT;
        }
        history.keep(now);
        now.pinX = px;
        now.pinY = py;
        findInk();
        return gapsWith(now.shiftX(), now.shiftY());
    }

    public int set(int what, int value) {
        if (!isWithin(what, 0, SETTINGS - 1)
                || !isWithin(value, LEAST_SETTINGS[what], GREATEST_SETTINGS[what])) {
            return INVALID_ARGUMENT;
        }
        history.keep(now);
        int before = now.settings[what];
        now.settings[what] = value;
        return before;
    }

    public int print(int prints) {
        if (!isWithin(prints, 1, MOST_PRINTS_AT_ONCE)) {
            return INVALID_ARGUMENT;
        }
        if (now.prints + prints > MOST_PRINTS) {
            return CAPACITY_EXCEEDED;
        }
        history.keep(now);
        int gaps = 0;
        for (int made = 0; made < prints; made++) {
            gaps += makeOnePrint();
        }
        return gaps;
    }

    // ---- snapshots

    public int take(int slot) {
        if (!isWithin(slot, 0, SLOTS - 1)) {
            return INVALID_ARGUMENT;
        }
        history.keep(now);
        now.takeSnapshot(slot);
        return now.blocks.paintedCells();
    }

    public int restore(int slot) {
        if (!isWithin(slot, 0, SLOTS - 1)) {
            return INVALID_ARGUMENT;
        }
        if (!now.isTaken(slot)) {
            return ILLEGAL_STATE;
        }
        history.keep(now);
        now.restoreSnapshot(slot);
        return now.blocks.paintedCells();
    }

    public int undo() {
        if (history.size() == 0) {
            return ILLEGAL_STATE;
        }
        history.giveBack(now);
        return history.size();
    }

    // ---- text

    public int append(int character) {
        if (!isWithin(character, 1, GREATEST_CHARACTER)) {
            return INVALID_ARGUMENT;
        }
        if (reader.length() >= LONGEST_TEXT) {
            return CAPACITY_EXCEEDED;
        }
        reader.addCharacter(character);
        return reader.length();
    }

    public int clearText() {
        int before = reader.length();
        reader.forgetText();
        return before;
    }

    public int load() {
        int answer = reader.readText(now.blocks);
        if (answer < 0) {
            return answer;
        }
        history.keep(now);
        reader.handPictureTo(now.blocks);
        reader.forgetText();
        return answer;
    }

    // ---- looking

    public int count(int what) {
        switch (what) {
            case 0: return now.prints;
            case 1: case 2: case 3: case 4: case 5: return now.settings[what - 1];
            case 6: return now.pinX;
            case 7: return now.pinY;
            case 8: return now.shiftX();
            case 9: return now.shiftY();
            case 10: return ROWS * COLUMNS - now.blocks.paintedCells();
            case 11: return now.blocks.colours.size();
            case 12: return now.blocks.lines.size();
            case 13: return now.blocks.lineBlock.size();
            case 14: return now.blocks.colourBlock.size();
            case 15: return wornCells();
            case 16: return now.log.size();
            case 17: return now.snapshots();
            case 18: return history.size();
            case 19: return reader.length();
            default: return INVALID_ARGUMENT;
        }
    }

    public int cell(int x, int y, int what) {
        if (!isPlace(x, y)) {
            return INVALID_ARGUMENT;
        }
        switch (what) {
            case 0: return now.blocks.kindAt(x, y);
            case 1: return oneIf(now.blocks.lineBlock.has(x, y));
            case 2: return oneIf(now.blocks.colourBlock.has(x, y));
            case 3: return now.blocks.wearAt(x, y);
            case 4: return oneIf(now.blocks.isWorn(x, y, now.hardness()));
            default: return INVALID_ARGUMENT;
        }
    }

    public int printed(int x, int y, int sx, int sy) {
        if (!isPlace(x, y) || !isShift(sx, sy)) {
            return INVALID_ARGUMENT;
        }
        findInk();
        return oneIf(printsColour(x, y, sx, sy)) + 2 * oneIf(ink.has(x, y));
    }

    public int proof(int back, int what) {
        if (back < 0 || !isWithin(what, 0, PROOF_PARTS - 1)) {
            return INVALID_ARGUMENT;
        }
        if (back >= now.log.size()) {
            return NONE;
        }
        return now.log.partOf(back, what);
    }

    // ---- reasons, and what would be, which changes nothing

    public int faults(int sx, int sy, int what) {
        if (!isShift(sx, sy)) {
            return INVALID_ARGUMENT;
        }
        findInk();
        switch (what) {
            case 0: return gapsWith(sx, sy);
            case 1: return spillsWith(sx, sy);
            case 2: return now.blocks.lostLines(ink);
            default: return INVALID_ARGUMENT;
        }
    }

    public int why(int x, int y) {
        if (!isPlace(x, y)) {
            return INVALID_ARGUMENT;
        }
        findInk();
        int kind = now.blocks.kindAt(x, y);
        boolean line = ink.has(x, y);
        boolean colour = printsColour(x, y, now.shiftX(), now.shiftY());
        if (kind != WHITE && !line && !colour) {
            return now.blocks.isWorn(x, y, now.hardness()) ? 1 : 2;
        }
        if (kind == WHITE && colour) {
            return 3;
        }
        if (kind != LINE && line) {
            return 4;
        }
        return kind == LINE && !line ? 5 : 0;
    }

    public int tolerance() {
        findInk();
        for (int r = 0; r <= GREATEST_TOLERANCE; r++) {
            if (hasGapsWithin(r, ink, now.blocks.colourBlock)) {
                return r == 0 ? NONE : r - 1;
            }
        }
        return GREATEST_TOLERANCE;
    }

    public int trapFor(int r) {
        if (!isWithin(r, 0, GREATEST_TOLERANCE)) {
            return INVALID_ARGUMENT;
        }
        Blocks blocks = now.blocks;
        for (int trap = 0; trap <= GREATEST_TRAP; trap++) {
            blocks.cutColour(trial, trap);
            // A line block that is cut anew prints the lines of the picture, without wear.
            if (!hasGapsWithin(r, blocks.lines, trial)) {
                return trap;
            }
        }
        return NONE;
    }

    public int bestPins(int what) {
        if (!isWithin(what, 0, 2)) {
            return INVALID_ARGUMENT;
        }
        findInk();
        int bestX = -GREATEST_PIN;
        int bestY = -GREATEST_PIN;
        int fewest = 2 * ROWS * COLUMNS;
        for (int px = -GREATEST_PIN; px <= GREATEST_PIN; px++) {
            for (int py = -GREATEST_PIN; py <= GREATEST_PIN; py++) {
                int sx = px + now.driftX();
                int sy = py + now.driftY();
                int wrong = gapsWith(sx, sy) + spillsWith(sx, sy);
                if (wrong < fewest) {
                    fewest = wrong;
                    bestX = px;
                    bestY = py;
                }
            }
        }
        if (what == 2) {
            return fewest;
        }
        return GREATEST_PIN + (what == 0 ? bestX : bestY);
    }

    public int printsLeft() {
        findInk();
        int least = now.blocks.printsUntilWorn(ink, now.hardness());
        return least > MOST_PRINTS_FORETOLD ? NONE : least;
    }

    // ---- helpers

    private static boolean isWithin(int value, int least, int greatest) {
        return value >= least && value <= greatest;
    }

    private static boolean isPlace(int x, int y) {
        return x >= 0 && x < COLUMNS && y >= 0 && y < ROWS;
    }

    private static boolean isShift(int sx, int sy) {
        return isWithin(sx, -GREATEST_SHIFT, GREATEST_SHIFT) && isWithin(sy, -GREATEST_SHIFT, GREATEST_SHIFT);
    }

    private static int oneIf(boolean holds) {
        return holds ? 1 : 0;
    }

    private void findInk() {
        now.blocks.findInk(ink, now.hardness());
    }

    private int wornCells() {
        findInk();
        return now.blocks.lineBlock.size() - ink.size();
    }

    private boolean printsColour(int x, int y, int sx, int sy) {
        return now.blocks.colourBlock.has(x - sx, y - sy);
    }

    private int gapsWith(int sx, int sy) {
        return now.blocks.gaps(ink, now.blocks.colourBlock, sx, sy);
    }

    private int spillsWith(int sx, int sy) {
        return now.blocks.spills(now.blocks.colourBlock, sx, sy);
    }

    private boolean hasGapsWithin(int r, Cells lineInk, Cells colourInk) {
        for (int sx = -r; sx <= r; sx++) {
            for (int sy = -r; sy <= r; sy++) {
                if (now.blocks.gaps(lineInk, colourInk, sx, sy) > 0) {
                    return true;
                }
            }
        }
        return false;
    }

    /** Makes one print and answers its gaps. */
    private int makeOnePrint() {
        findInk();
        int sx = now.shiftX();
        int sy = now.shiftY();
        int gaps = gapsWith(sx, sy);
        now.prints++;
        now.log.addProof(now.prints, sx, sy);
        now.log.addFaults(gaps, spillsWith(sx, sy), now.blocks.lostLines(ink));
        now.blocks.wearDown(ink);
        now.dry();
        return gaps;
    }

    /** A set of cells: for each row a bit for each column. */
    private static final class Cells {
        private final int[] rows;

        Cells() {
            rows = new int[ROWS];
        }

        void becomeLike(Cells other) {
            System.arraycopy(other.rows, 0, rows, 0, ROWS);
        }

        int row(int y) {
            return y >= 0 && y < ROWS ? rows[y] : 0;
        }

        void putRow(int y, int bits) {
            if (y >= 0 && y < ROWS) {
                rows[y] = bits & ALL_COLUMNS;
            }
        }

        boolean has(int x, int y) {
            return isPlace(x, y) && ((rows[y] >> x) & 1) == 1;
        }

        void put(int x, int y, boolean in) {
            if (isPlace(x, y)) {
                rows[y] = in ? rows[y] | (1 << x) : rows[y] & ~(1 << x);
            }
        }

        int size() {
            int size = 0;
            for (int y = 0; y < ROWS; y++) {
                size += Integer.bitCount(rows[y]);
            }
            return size;
        }

        /** The row y of these cells when they are shifted by (sx, sy), sx being -8 to 8. */
        int shiftedRow(int y, int sx, int sy) {
            int bits = row(y - sy);
            return sx >= 0 ? (bits << sx) & ALL_COLUMNS : bits >> -sx;
        }

        /** Adds those of the others that are neighbors of these cells. */
        void growInto(Cells others) {
            int above = 0;
            for (int y = 0; y < ROWS; y++) {
                int here = rows[y];
                int near = above | row(y + 1) | (here << 1) | (here >> 1);
                rows[y] = here | (near & others.row(y));
                above = here;
            }
        }

        int neighbors(int x, int y) {
            return oneIf(has(x - 1, y)) + oneIf(has(x + 1, y)) + oneIf(has(x, y - 1)) + oneIf(has(x, y + 1));
        }
    }

    /** The picture, and the two blocks with their wear: all that a snapshot keeps. */
    private static final class Blocks {
        final Cells colours;
        final Cells lines;
        final Cells lineBlock;
        final Cells colourBlock;
        /** The wear of each cell of the line block, row by row; 0 where it does not print. */
        private final int[] wear;

        Blocks() {
            colours = new Cells();
            lines = new Cells();
            lineBlock = new Cells();
            colourBlock = new Cells();
            wear = new int[ROWS * COLUMNS];
        }

        void becomeLike(Blocks other) {
            colours.becomeLike(other.colours);
            lines.becomeLike(other.lines);
            lineBlock.becomeLike(other.lineBlock);
            colourBlock.becomeLike(other.colourBlock);
            System.arraycopy(other.wear, 0, wear, 0, ROWS * COLUMNS);
        }

        int kindAt(int x, int y) {
            if (lines.has(x, y)) {
                return LINE;
            }
            return colours.has(x, y) ? COLOUR : WHITE;
        }

        int paintedCells() {
            return colours.size() + lines.size();
        }

        /** Paints an area that lies in the picture, and answers how many cells changed. */
        int fillArea(int left, int top, int width, int height, int kind) {
            int changed = 0;
            for (int y = top; y < top + height; y++) {
                for (int x = left; x < left + width; x++) {
                    changed += oneIf(kindAt(x, y) != kind);
                    colours.put(x, y, kind == COLOUR);
                    lines.put(x, y, kind == LINE);
                }
            }
            return changed;
        }

        void cutAnew(int trap) {
            lineBlock.becomeLike(lines);
            Arrays.fill(wear, 0);
            cutColour(colourBlock, trap);
        }

        void cutColour(Cells block, int trap) {
            block.becomeLike(colours);
            for (int step = 0; step < trap; step++) {
                block.growInto(lines);
            }
        }

        int wearAt(int x, int y) {
            return isPlace(x, y) ? wear[y * COLUMNS + x] : 0;
        }

        void clearWear(int x, int y) {
            if (isPlace(x, y)) {
                wear[y * COLUMNS + x] = 0;
            }
        }

        boolean isWorn(int x, int y, int hardness) {
            return lineBlock.has(x, y) && wearAt(x, y) > hardness;
        }

        void findInk(Cells ink, int hardness) {
            for (int y = 0; y < ROWS; y++) {
                int worn = 0;
                for (int x = 0; x < COLUMNS; x++) {
                    worn |= oneIf(wear[y * COLUMNS + x] > hardness) << x;
                }
                ink.putRow(y, lineBlock.row(y) & ~worn);
            }
        }

        int gaps(Cells lineInk, Cells colourInk, int sx, int sy) {
            int gaps = 0;
            for (int y = 0; y < ROWS; y++) {
                int inked = lineInk.row(y) | colourInk.shiftedRow(y, sx, sy);
                gaps += Integer.bitCount((colours.row(y) | lines.row(y)) & ~inked);
            }
            return gaps;
        }

        int spills(Cells colourInk, int sx, int sy) {
            int spills = 0;
            for (int y = 0; y < ROWS; y++) {
                int painted = colours.row(y) | lines.row(y);
                spills += Integer.bitCount(colourInk.shiftedRow(y, sx, sy) & ~painted);
            }
            return spills;
        }

        int lostLines(Cells lineInk) {
            int lost = 0;
            for (int y = 0; y < ROWS; y++) {
                lost += Integer.bitCount(lines.row(y) & ~lineInk.row(y));
            }
            return lost;
        }

        /** One print's wear of the cells that still print a line. */
        void wearDown(Cells ink) {
            for (int y = 0; y < ROWS; y++) {
                for (int x = 0; x < COLUMNS; x++) {
                    if (ink.has(x, y)) {
                        wear[y * COLUMNS + x] += wearOfPrint(ink, x, y);
                    }
                }
            }
        }

        /** The prints until the first of the inked cells is worn, or more than can be foretold. */
        int printsUntilWorn(Cells ink, int hardness) {
            int least = MOST_PRINTS_FORETOLD + 1;
            for (int y = 0; y < ROWS; y++) {
                for (int x = 0; x < COLUMNS; x++) {
                    // Until a cell is worn all have the same neighbors, so that their wear grows evenly.
                    int each = wearOfPrint(ink, x, y);
                    if (ink.has(x, y) && each > 0) {
                        least = Math.min(least, (hardness - wear[y * COLUMNS + x]) / each + 1);
                    }
                }
            }
            return least;
        }

        private static int wearOfPrint(Cells ink, int x, int y) {
            return 1 + SIDES - ink.neighbors(x, y);
        }
    }

    /** The latest proofs; a proof's parts stand side by side, in the place of the proof that it drops. */
    private static final class Log {
        private final int[] parts;
        private int size;
        private int latest;

        Log() {
            parts = new int[MOST_PROOFS * PROOF_PARTS];
            size = 0;
            latest = 0;
        }

        void becomeLike(Log other) {
            System.arraycopy(other.parts, 0, parts, 0, MOST_PROOFS * PROOF_PARTS);
            size = other.size;
            latest = other.latest;
        }

        int size() {
            return size;
        }

        void addProof(int number, int sx, int sy) {
            latest = (latest + 1) % MOST_PROOFS;
            size = Math.min(size + 1, MOST_PROOFS);
            parts[latest * PROOF_PARTS] = number;
            parts[latest * PROOF_PARTS + 1] = sx + GREATEST_SHIFT;
            parts[latest * PROOF_PARTS + 2] = sy + GREATEST_SHIFT;
        }

        /** Tells the faults of the proof that was added last. */
        void addFaults(int gaps, int spills, int lostLines) {
            parts[latest * PROOF_PARTS + 3] = gaps;
            parts[latest * PROOF_PARTS + 4] = spills;
            parts[latest * PROOF_PARTS + 5] = lostLines;
        }

        int partOf(int back, int what) {
            if (!isWithin(back, 0, MOST_PROOFS - 1) || !isWithin(what, 0, PROOF_PARTS - 1)) {
                return 0;
            }
            int place = (latest + MOST_PROOFS - back) % MOST_PROOFS;
            return parts[place * PROOF_PARTS + what];
        }
    }

    /** All that undo() brings back. */
    private static final class State {
        final Blocks blocks;
        final int[] settings;
        final Log log;
        int pinX;
        int pinY;
        int prints;
        private final Blocks firstSnapshot;
        private final Blocks secondSnapshot;
        private boolean firstTaken;
        private boolean secondTaken;

        State() {
            blocks = new Blocks();
            settings = new int[SETTINGS];
            System.arraycopy(FIRST_SETTINGS, 0, settings, 0, SETTINGS);
            log = new Log();
            pinX = 0;
            pinY = 0;
            prints = 0;
            firstSnapshot = new Blocks();
            secondSnapshot = new Blocks();
            firstTaken = false;
            secondTaken = false;
        }

        void becomeLike(State other) {
            blocks.becomeLike(other.blocks);
            System.arraycopy(other.settings, 0, settings, 0, SETTINGS);
            log.becomeLike(other.log);
            pinX = other.pinX;
            pinY = other.pinY;
            prints = other.prints;
            firstSnapshot.becomeLike(other.firstSnapshot);
            secondSnapshot.becomeLike(other.secondSnapshot);
            firstTaken = other.firstTaken;
            secondTaken = other.secondTaken;
        }

        int hardness() {
            return settings[HARDNESS];
        }

        int driftX() {
            return (settings[DAMP] - MIDDLE_DAMP) * settings[STRETCH_X] / MIDDLE_DAMP;
        }

        int driftY() {
            return (settings[DAMP] - MIDDLE_DAMP) * settings[STRETCH_Y] / MIDDLE_DAMP;
        }

        int shiftX() {
            return pinX + driftX();
        }

        int shiftY() {
            return pinY + driftY();
        }

        void dry() {
            settings[DAMP] = Math.max(0, settings[DAMP] - settings[DRYING]);
        }

        boolean isTaken(int slot) {
            return slot == 0 ? firstTaken : secondTaken;
        }

        int snapshots() {
            return oneIf(firstTaken) + oneIf(secondTaken);
        }

        void takeSnapshot(int slot) {
            snapshotIn(slot).becomeLike(blocks);
            firstTaken = firstTaken || slot == 0;
            secondTaken = secondTaken || slot == 1;
        }

        void restoreSnapshot(int slot) {
            blocks.becomeLike(snapshotIn(slot));
        }

        private Blocks snapshotIn(int slot) {
            return slot == 0 ? firstSnapshot : secondSnapshot;
        }
    }

    /** The latest states, in a ring that is used again and again. */
    private static final class History {
        private final State[] states;
        private int size;
        private int next;

        History() {
            states = new State[MOST_STATES];
            for (int i = 0; i < MOST_STATES; i++) {
                states[i] = new State();
            }
            size = 0;
            next = 0;
        }

        int size() {
            return size;
        }

        void keep(State state) {
            State kept = states[next];
            if (kept != null) {
                kept.becomeLike(state);
            }
            next = (next + 1) % MOST_STATES;
            size = Math.min(size + 1, MOST_STATES);
        }

        /** Removes the latest state, which becomes the given one. */
        void giveBack(State state) {
            next = (next + MOST_STATES - 1) % MOST_STATES;
            size = Math.max(size - 1, 0);
            State kept = states[next];
            if (kept != null) {
                state.becomeLike(kept);
            }
        }
    }

    /** The text, and the picture as it would be with the rows that are read from it. */
    private static final class Reader {
        private final int[] text;
        private int length;
        /** The offset of the character that is read next. */
        private int at;
        /** The error position, or -1. */
        private int error;
        private final Cells colours;
        private final Cells lines;

        Reader() {
            text = new int[LONGEST_TEXT];
            length = 0;
            at = 0;
            error = -1;
            colours = new Cells();
            lines = new Cells();
        }

        int length() {
            return length;
        }

        void addCharacter(int character) {
            if (length < LONGEST_TEXT) {
                text[length] = character;
                length++;
            }
        }

        void forgetText() {
            length = 0;
        }

        void handPictureTo(Blocks blocks) {
            blocks.colours.becomeLike(colours);
            blocks.lines.becomeLike(lines);
        }

        /** Answers the number of items, or -2000 minus the error position. */
        int readText(Blocks blocks) {
            colours.becomeLike(blocks.colours);
            lines.becomeLike(blocks.lines);
            at = 0;
            error = -1;
            // No item is without characters, so there are never more of them than characters.
            for (int items = 0; items <= LONGEST_TEXT; items++) {
                skipSpaces();
                if (at >= length) {
                    return items;
                }
                readItem();
                if (error >= 0) {
                    return TEXT_ERROR - error;
                }
            }
            return TEXT_ERROR - length;
        }

        private void readItem() {
            int row = readNumber(0, ROWS - 1);
            if (row == NO_NUMBER) {
                return;
            }
            skipSpaces();
            if (here() != ':') {
                failAt(at);
                return;
            }
            at++;
            readRuns(row);
        }

        private void readRuns(int row) {
            int filled = 0;
            int colourBits = 0;
            int lineBits = 0;
            for (int runs = 0; runs <= COLUMNS; runs++) {
                skipSpaces();
                if (here() == ';' && filled == COLUMNS) {
                    at++;
                    colours.putRow(row, colourBits);
                    lines.putRow(row, lineBits);
                    return;
                }
                int cells = readNumber(1, COLUMNS - filled);
                if (cells == NO_NUMBER) {
                    return;
                }
                int kind = readKind();
                if (error >= 0) {
                    return;
                }
                int bits = ((1 << cells) - 1) << filled;
                colourBits |= kind == COLOUR ? bits : 0;
                lineBits |= kind == LINE ? bits : 0;
                filled += cells;
            }
        }

        /** Answers what the cells of a run are; if there is no letter of a kind, the error position is told. */
        private int readKind() {
            skipSpaces();
            int letter = here();
            if (letter != 'w' && letter != 'c' && letter != 'l') {
                failAt(at);
                return WHITE;
            }
            at++;
            if (letter == 'w') {
                return WHITE;
            }
            return letter == 'c' ? COLOUR : LINE;
        }

        /** Answers the number of the range that stands here, or NO_NUMBER, and the error position is told then. */
        private int readNumber(int least, int greatest) {
            int start = at;
            boolean zeroFirst = here() == '0';
            int number = 0;
            while (at < length && isDigit(here())) {
                // A number that is too great stays so, without running over.
                number = Math.min(number * 10 + here() - '0', LONGEST_TEXT);
                at++;
            }
            boolean zeroAhead = zeroFirst && at - start > 1;
            if (at == start || zeroAhead || !isWithin(number, least, greatest)) {
                failAt(start);
                return NO_NUMBER;
            }
            return number;
        }

        private static boolean isDigit(int character) {
            return character >= '0' && character <= '9';
        }

        private void skipSpaces() {
            while (at < length && here() == ' ') {
                at++;
            }
        }

        /** The character that is read next; 0, which no text holds, behind the last one. */
        private int here() {
            return at >= 0 && at < length && at < LONGEST_TEXT ? text[at] : 0;
        }

        private void failAt(int offset) {
            error = offset;
        }
    }
}
