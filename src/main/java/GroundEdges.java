/** Ground in cells of four heights, drawn layer by layer in squares that meet; ../shared/DOC.md says what each call promises. */
public final class GroundEdges {
    public static final int BAD = -1, STATE = -2, FULL = -3, NONE = -9;

    private static final int MOST_COLUMNS = 4;
    private static final int MOST_ROWS = 6;
    private static final int MOST_CELLS = 24;
    private static final int HEIGHTS = 4;
    private static final int LAYERS = 3;
    private static final int SQUARES = 47;
    /** Stands for NONE inside, so that a square is always an index of a row of 48. */
    private static final int NO_SQUARE = 47;
    private static final int MOST_UNDONE = 6;
    private static final int IMAGES = 2;
    private static final int BAD_KIND = -5;
    private static final int FAULTS = -10;

    private final Ground ground;
    /** What a call would make of the ground; it becomes the ground only when nothing refuses it. */
    private final Ground draft;
    private final Telling text;
    private final Past past;
    private final Images images;
    private final Kinds kinds;
    private final LeastChange leastChange;
    private final Seen seen;

    public GroundEdges() {
        ground = new Ground();
        draft = new Ground();
        text = new Telling();
        past = new Past();
        images = new Images();
        kinds = new Kinds();
        leastChange = new LeastChange();
        seen = new Seen();
    }

    // ---- what is told

    public int type(int letter) {
        if (letter < 0 || letter > 255) {
            return BAD;
        }
        return text.add((char) letter) ? text.length : FULL;
    }

    public int clear() {
        int had = text.length;
        text.length = 0;
        return had;
    }

    public int tells() {
        int fault = text.read(draft);
        if (fault != Telling.NO_FAULT) {
            return FAULTS - fault;
        }
        text.length = 0;
        draftIsDone();
        return text.items;
    }

    // ---- what is done

    public int paints(int x, int y, int x2, int y2, int height) {
        if (!ground.has(x, y) || !ground.has(x2, y2) || x2 < x || y2 < y || !isHeight(height)) {
            return BAD;
        }
        draft.become(ground);
        int changed = 0;
        for (int row = y; row <= y2; row++) {
            for (int column = x; column <= x2; column++) {
                int cell = ground.numberOf(column, row);
                if (ground.heightOf(cell) != height) {
                    draft.setHeight(cell, height);
                    changed++;
                }
            }
        }
        if (changed == 0) {
            return STATE;
        }
        draftIsDone();
        return changed;
    }

    public int floods(int x, int y, int height) {
        if (!ground.has(x, y) || !isHeight(height)) {
            return BAD;
        }
        int start = ground.numberOf(x, y);
        if (ground.heightOf(start) == height) {
            return STATE;
        }
        int reached = ground.floodedFrom(start);
        draft.become(ground);
        for (int cell = 0; cell < ground.cells(); cell++) {
            if ((reached >> cell & 1) == 1) {
                draft.setHeight(cell, height);
            }
        }
        draftIsDone();
        return Integer.bitCount(reached);
    }

    public int settles() {
        if (ground.jarringPairs() == 0) {
            return STATE;
        }
        leastChange.find(ground);
        if (leastChange.changed == NONE) {
            return STATE;
        }
        draft.become(ground);
        draft.heights = leastChange.heights;
        draftIsDone();
        return leastChange.changed;
    }

    public int fixes(int x, int y, int is) {
        if (!ground.has(x, y) || is < 0 || is > 1) {
            return BAD;
        }
        int cell = ground.numberOf(x, y);
        if (ground.fixedOf(cell) == is) {
            return STATE;
        }
        draft.become(ground);
        draft.setFixed(cell, is);
        draftIsDone();
        return ground.fixedCells();
    }

    public int undo() {
        if (past.known == 0) {
            return STATE;
        }
        past.takeLatest(ground);
        return past.known;
    }

    // ---- asked

    public int cell(int x, int y, int what) {
        if (!ground.has(x, y)) {
            return BAD;
        }
        switch (what) {
            case 0:
                return ground.heightOf(ground.numberOf(x, y));
            case 1:
                return ground.fixedOf(ground.numberOf(x, y));
            case 2:
                kinds.list(ground);
                return kinds.numberOf(ground.rowOfSquares(x, y));
            default:
                return BAD;
        }
    }

    public int square(int x, int y, int layer, int what) {
        if (!ground.has(x, y) || !isLayer(layer)) {
            return BAD;
        }
        switch (what) {
            case 0:
                return ground.maskOf(x, y, layer);
            case 1:
                return squareAsAnswer(ground.squareOf(x, y, layer));
            default:
                return BAD;
        }
    }

    public int kind(int k, int what) {
        if (k < -1 || what < 0 || what > LAYERS || k == -1 && what != 0) {
            return BAD_KIND;
        }
        kinds.list(ground);
        if (k >= kinds.known) {
            return BAD_KIND;
        }
        if (k == -1) {
            return kinds.known;
        }
        return what == 0 ? kinds.cellsOf(k) : squareAsAnswer(kinds.squareOf(k, what));
    }

    public int jars() {
        return ground.jarringPairs();
    }

    public int least(int n) {
        if (n < -1 || n >= ground.cells()) {
            return BAD;
        }
        leastChange.find(ground);
        if (n == -1 || leastChange.changed == NONE) {
            return leastChange.changed;
        }
        return leastChange.heightOf(n);
    }

    // ---- which cell

    public int sees(int layer, int square) {
        if (!isLayer(layer) || square != NONE && (square < 0 || square >= SQUARES)) {
            return BAD;
        }
        return seen.add(layer, square == NONE ? NO_SQUARE : square) ? seen.known : FULL;
    }

    public int forget() {
        int had = seen.known;
        seen.known = 0;
        return had;
    }

    public int which(int what) {
        switch (what) {
            case 0:
                return Integer.bitCount(seen.cellsThatFit(ground));
            case 1:
                return firstOf(seen.cellsThatFit(ground));
            default:
                return BAD;
        }
    }

    public int look() {
        int cells = seen.cellsThatFit(ground);
        if (Integer.bitCount(cells) <= 1) {
            return NONE;
        }
        int best = NONE;
        int least = MOST_CELLS + 1;
        for (int layer = 1; layer <= LAYERS; layer++) {
            int most = seen.mostAlike(ground, cells, layer);
            if (most < least) {
                least = most;
                best = layer;
            }
        }
        return best;
    }

    // ---- images

    public int keep(int image) {
        if (image < 0 || image >= IMAGES) {
            return BAD;
        }
        images.put(image, ground);
        return ground.cells();
    }

    public int back(int image) {
        if (image < 0 || image >= IMAGES) {
            return BAD;
        }
        if (!images.isKept(image)) {
            return STATE;
        }
        images.copyTo(image, ground);
        past.known = 0;
        return ground.cells();
    }

    public int count(int what) {
        switch (what) {
            case 0:
                return ground.columns;
            case 1:
                return ground.rows;
            case 2:
                return ground.beyond;
            case 3:
                return ground.fixedCells();
            case 4:
                return ground.heightsTogether();
            case 5:
                return seen.known;
            case 6:
                return text.length;
            case 7:
                return past.known;
            default:
                return BAD;
        }
    }

    // ---- inside

    private void draftIsDone() {
        past.add(ground);
        ground.become(draft);
    }

    private static boolean isHeight(int height) {
        return height >= 0 && height < HEIGHTS;
    }

    private static boolean isLayer(int layer) {
        return layer >= 1 && layer <= LAYERS;
    }

    private static int squareAsAnswer(int square) {
        return square == NO_SQUARE ? NONE : square;
    }

    private static int firstOf(int cells) {
        for (int cell = 0; cell < MOST_CELLS; cell++) {
            if ((cells >> cell & 1) == 1) {
                return cell;
            }
        }
        return NONE;
    }

    /**
     * THE MAP, FIXED and BEYOND. A cell is two bits of a long, the first cell's on top: a copy is five
     * assignments, no cell can be missing, and a row's bits, as a number, are ordered as rows are by
     * their first unlike height.
     */
    private static final class Ground {
        private static final int[] COLUMN_STEPS = {0, 1, 1, 1, 0, -1, -1, -1};
        private static final int[] ROW_STEPS = {-1, -1, 0, 1, 1, 1, 0, -1};
        private static final int NEIGHBOURS = 8;
        /** Of two neighbours one is 2 to 5 of the other, never both: each pair is met once. */
        private static final int RIGHT = 2, DOWN_LEFT = 5;
        private static final int[] MASKS = {
            0, 1, 4, 5, 7, 16, 17, 20, 21, 23, 28, 29, 31, 64, 65, 68,
            69, 71, 80, 81, 84, 85, 87, 92, 93, 95, 112, 113, 116, 117, 119, 124,
            125, 127, 193, 197, 199, 209, 213, 215, 221, 223, 241, 245, 247, 253, 255};

        private int columns;
        private int rows;
        private long heights;
        /** Of a FIXED cell the lower one of the bits that its height has in heights. */
        private long fixed;
        private int beyond;

        Ground() {
            columns = 1;
            rows = 1;
            beyond = NONE;
        }

        void become(Ground other) {
            columns = other.columns;
            rows = other.rows;
            heights = other.heights;
            fixed = other.fixed;
            beyond = other.beyond;
        }

        int cells() {
            return columns * rows;
        }

        boolean has(int x, int y) {
            return x >= 0 && x < columns && y >= 0 && y < rows;
        }

        int numberOf(int x, int y) {
            return columns * y + x;
        }

        int heightOf(int cell) {
            // written out: the longest chain of calls ends here
            return (int) (heights >>> 2 * (MOST_CELLS - 1 - cell)) & 3;
        }

        void setHeight(int cell, int height) {
            int place = placeOf(cell);
            heights = heights & ~(3L << place) | (long) height << place;
        }

        int fixedOf(int cell) {
            return (int) (fixed >>> placeOf(cell)) & 1;
        }

        void setFixed(int cell, int is) {
            int place = placeOf(cell);
            fixed = fixed & ~(1L << place) | (long) is << place;
        }

        int fixedCells() {
            return Long.bitCount(fixed);
        }

        int heightsTogether() {
            int sum = 0;
            for (int cell = 0; cell < cells(); cell++) {
                sum += heightOf(cell);
            }
            return sum;
        }

        static int placeOf(int cell) {
            return 2 * (MOST_CELLS - 1 - cell);
        }

        /** Where the bits of a row's last cell are: the row's heights, as a number, begin there. */
        int placeOfRow(int y) {
            return placeOf(columns * (y + 1) - 1);
        }

        int heightsOfRow(int y) {
            return (int) (heights >>> placeOfRow(y)) & rowBits();
        }

        int fixedOfRow(int y) {
            return (int) (fixed >>> placeOfRow(y)) & rowBits();
        }

        private int rowBits() {
            return (1 << 2 * columns) - 1;
        }

        /** The height at a column and row that may be outside THE MAP. */
        private int heightAt(int x, int y) {
            if (has(x, y)) {
                return heightOf(numberOf(x, y));
            }
            if (beyond != NONE) {
                return beyond;
            }
            int nearestX = Math.max(0, Math.min(x, columns - 1));
            int nearestY = Math.max(0, Math.min(y, rows - 1));
            return heightOf(numberOf(nearestX, nearestY));
        }

        int maskOf(int x, int y, int layer) {
            int around = 0;
            for (int k = 0; k < NEIGHBOURS; k++) {
                if (heightAt(x + COLUMN_STEPS[k], y + ROW_STEPS[k]) >= layer) {
                    around |= 1 << k;
                }
            }
            int mask = around;
            for (int corner = 1; corner < NEIGHBOURS; corner += 2) {
                int beside = 1 << corner - 1 | 1 << (corner + 1 & 7);
                if ((around & beside) != beside) {
                    mask &= ~(1 << corner);
                }
            }
            return mask;
        }

        /** 0 to 46, or NO_SQUARE. */
        int squareOf(int x, int y, int layer) {
            if (heightAt(x, y) < layer) {
                return NO_SQUARE;
            }
            int mask = maskOf(x, y, layer);
            int less = 0;
            while (less < MASKS.length && MASKS[less] < mask) {
                less++;
            }
            return less;
        }

        /** A ROW as one number: six bits a layer. */
        int rowOfSquares(int x, int y) {
            int row = 0;
            for (int layer = LAYERS; layer >= 1; layer--) {
                row = row << 6 | squareOf(x, y, layer);
            }
            return row;
        }

        int jarringPairs() {
            int pairs = 0;
            for (int y = 0; y < rows; y++) {
                for (int x = 0; x < columns; x++) {
                    pairs += jarringAheadOf(x, y);
                }
            }
            return pairs;
        }

        private int jarringAheadOf(int x, int y) {
            int height = heightOf(numberOf(x, y));
            int pairs = 0;
            for (int k = RIGHT; k <= DOWN_LEFT; k++) {
                int x2 = x + COLUMN_STEPS[k];
                int y2 = y + ROW_STEPS[k];
                if (has(x2, y2) && Math.abs(heightOf(numberOf(x2, y2)) - height) > 1) {
                    pairs++;
                }
            }
            return pairs;
        }

        /** The cells that a flood from a cell reaches, a bit each, by their numbers. */
        int floodedFrom(int start) {
            int alike = 0;
            for (int cell = 0; cell < cells(); cell++) {
                if (heightOf(cell) == heightOf(start)) {
                    alike |= 1 << cell;
                }
            }
            int firstColumn = 0;
            for (int y = 0; y < rows; y++) {
                firstColumn |= 1 << columns * y;
            }
            int lastColumn = firstColumn << columns - 1;
            int reached = 1 << start;
            for (int step = 1; step < MOST_CELLS; step++) {
                int upAndDown = reached >> columns | reached << columns;
                int leftAndRight = (reached & ~firstColumn) >> 1 | (reached & ~lastColumn) << 1;
                reached |= (upAndDown | leftAndRight) & alike;
            }
            return reached;
        }
    }

    /** THE TEXT, and its reading: token by token, each held against what is due at its place. */
    private static final class Telling {
        private static final int NO_FAULT = -1;
        private static final int MOST_LETTERS = 120;
        private static final int WORD = 0, ROW = 1, FIX_COLUMN = 2, FIX_ROW = 3, BEYOND = 4, END = 5;
        private static final int LETTERS = 0, FIGURES = 1, SIGN = 2;

        private final char[] letters;
        /** Never changed: what a text does not tell is as here. */
        private final Ground atFirst;
        private int length;
        /** The token in hand: the place of its first letter, and the place behind its last. */
        private int from;
        private int to;
        private int due;
        private int items;
        private int rowsTold;
        private int fixColumn;
        private boolean fixTold;
        private boolean beyondTold;

        Telling() {
            letters = new char[MOST_LETTERS];
            atFirst = new Ground();
        }

        boolean add(char letter) {
            if (length < 0 || length >= letters.length) {
                return false;
            }
            letters[length] = letter;
            length++;
            return true;
        }

        /** Reads THE TEXT into a draft: FAULT, or NO_FAULT (only then the draft is of use). */
        int read(Ground draft) {
            begin(draft);
            for (int token = 0; token < MOST_LETTERS; token++) {
                takeToken();
                if (from >= length) {
                    break;
                }
                if (!stands(draft)) {
                    return from;
                }
            }
            // no text has more tokens than letters, so here it is at its end
            return due == WORD && rowsTold > 0 ? NO_FAULT : length;
        }

        private void begin(Ground draft) {
            draft.become(atFirst);
            to = 0;
            due = WORD;
            items = 0;
            rowsTold = 0;
            fixTold = false;
            beyondTold = false;
        }

        private void takeToken() {
            from = to;
            while (from < length && letterAt(from) == ' ') {
                from++;
            }
            int sort = sortOf(letterAt(from));
            to = from + 1;
            while (sort != SIGN && to < length && sortOf(letterAt(to)) == sort) {
                to++;
            }
        }

        private char letterAt(int place) {
            return place >= 0 && place < length && place < letters.length ? letters[place] : ' ';
        }

        private static int sortOf(char letter) {
            if (letter >= 'a' && letter <= 'z') {
                return LETTERS;
            }
            return letter >= '0' && letter <= '9' ? FIGURES : SIGN;
        }

        private boolean stands(Ground draft) {
            switch (due) {
                case WORD:
                    return standsAsWord();
                case ROW:
                    return standsAsRow(draft);
                case FIX_COLUMN:
                    fixColumn = figure();
                    due = FIX_ROW;
                    return fixColumn >= 0 && fixColumn < draft.columns;
                case FIX_ROW:
                    return standsAsFixRow(draft);
                case BEYOND:
                    draft.beyond = figure();
                    due = END;
                    return isHeight(draft.beyond);
                default:
                    items++;
                    due = WORD;
                    return letterAt(from) == ';';
            }
        }

        private boolean standsAsWord() {
            if (isWord("row")) {
                due = ROW;
                return rowsTold < MOST_ROWS && !fixTold;
            }
            if (isWord("fix")) {
                due = FIX_COLUMN;
                fixTold = true;
                return rowsTold > 0;
            }
            if (isWord("beyond")) {
                boolean again = beyondTold;
                due = BEYOND;
                beyondTold = true;
                return !again;
            }
            return false;
        }

        private boolean isWord(String word) {
            if (to - from != word.length()) {
                return false;
            }
            for (int i = 0; i < word.length(); i++) {
                if (letterAt(from + i) != word.charAt(i)) {
                    return false;
                }
            }
            return true;
        }

        private boolean standsAsRow(Ground draft) {
            int figures = to - from;
            if (figures > MOST_COLUMNS || rowsTold > 0 && figures != draft.columns) {
                return false;
            }
            draft.columns = figures;
            draft.rows = rowsTold + 1;
            for (int x = 0; x < figures; x++) {
                int height = letterAt(from + x) - '0';
                if (!isHeight(height)) {
                    return false;
                }
                draft.setHeight(draft.numberOf(x, rowsTold), height);
            }
            rowsTold++;
            due = END;
            return true;
        }

        private boolean standsAsFixRow(Ground draft) {
            int y = figure();
            due = END;
            if (!draft.has(fixColumn, y)) {
                return false;
            }
            draft.setFixed(draft.numberOf(fixColumn, y), 1);
            return true;
        }

        /** What the token tells if it is just one figure; otherwise less than any figure. */
        private int figure() {
            return to - from == 1 && sortOf(letterAt(from)) == FIGURES ? letterAt(from) - '0' : -1;
        }
    }

    /** Grounds as they were, in places that are made once. */
    private static final class Shelf {
        private final Ground[] places;

        Shelf(int size) {
            places = new Ground[Math.max(0, size)];
            for (int i = 0; i < places.length; i++) {
                places[i] = new Ground();
            }
        }

        private Ground at(int i) {
            return i >= 0 && i < places.length ? places[i] : null;
        }

        void put(int i, Ground ground) {
            Ground place = at(i);
            if (place != null) {
                place.become(ground);
            }
        }

        void copyTo(int i, Ground ground) {
            Ground place = at(i);
            if (place != null) {
                ground.become(place);
            }
        }

        /** The first is lost, each other one stands a place ahead. */
        void moveUp() {
            for (int i = 1; i < places.length; i++) {
                Ground place = at(i);
                if (place != null) {
                    put(i - 1, place);
                }
            }
        }
    }

    /** What can be UNDONE, the latest last. */
    private static final class Past {
        private final Shelf shelf;
        private int known;

        Past() {
            shelf = new Shelf(MOST_UNDONE);
        }

        void add(Ground ground) {
            if (known >= MOST_UNDONE) {
                shelf.moveUp();
                known = MOST_UNDONE - 1;
            }
            shelf.put(known, ground);
            known++;
        }

        void takeLatest(Ground ground) {
            known--;
            shelf.copyTo(known, ground);
        }
    }

    private static final class Images {
        private final Shelf shelf;
        /** A bit an image. */
        private int kept;

        Images() {
            shelf = new Shelf(IMAGES);
        }

        void put(int image, Ground ground) {
            shelf.put(image, ground);
            kept |= 1 << image;
        }

        boolean isKept(int image) {
            return (kept >> image & 1) == 1;
        }

        void copyTo(int image, Ground ground) {
            shelf.copyTo(image, ground);
        }
    }

    /** The unlike ROWS that cells have, as they come first. */
    private static final class Kinds {
        private final int[] rows;
        private final int[] cells;
        private int known;

        Kinds() {
            rows = new int[MOST_CELLS];
            cells = new int[MOST_CELLS];
        }

        void list(Ground ground) {
            known = 0;
            for (int y = 0; y < ground.rows; y++) {
                for (int x = 0; x < ground.columns; x++) {
                    add(ground.rowOfSquares(x, y));
                }
            }
        }

        private void add(int row) {
            int k = numberOf(row);
            if (k >= rows.length || k >= cells.length) {
                return;
            }
            if (k == known) {
                rows[k] = row;
                cells[k] = 0;
                known++;
            }
            cells[k]++;
        }

        /** How many are known, if none of them is that row. */
        int numberOf(int row) {
            int k = 0;
            while (k < known && k < rows.length && rows[k] != row) {
                k++;
            }
            return k;
        }

        int cellsOf(int k) {
            return k >= 0 && k < cells.length ? cells[k] : 0;
        }

        int squareOf(int k, int layer) {
            return k >= 0 && k < rows.length ? rows[k] >> 6 * (layer - 1) & 63 : NO_SQUARE;
        }
    }

    /**
     * LEAST CHANGE, row by row from below: for each row of heights that does not jar in itself, the
     * fewest changes in it and all below it; then from above the least of the best, row by row.
     */
    private static final class LeastChange {
        /** More than there are cells. */
        private static final int NO_WAY = 99;
        /** So many rows of four heights do not jar in themselves; there are fewer of shorter ones. */
        private static final int MOST_LISTED = 68;
        private static final int ANY = 0xffff;
        private static final int LOWER_BITS = 0x55;
        /** The heights, a bit each, that do not jar with 0, 1, 2, 3. */
        private static final int[] NEAR = {3, 7, 14, 12};

        /** What changed and heights are the answer to; both are right for a new ground as they are. */
        private final Ground asked;
        private final int[] rows;
        /** The row's heights, four bits a column, one of them set. */
        private final int[] standing;
        /** The heights that jar with none of the row's, four bits a column. */
        private final int[] near;
        private final int[] fewest;
        private int listed;
        private int changed;
        private long heights;

        LeastChange() {
            asked = new Ground();
            rows = new int[MOST_LISTED];
            standing = new int[MOST_LISTED];
            near = new int[MOST_LISTED];
            fewest = new int[MOST_ROWS * MOST_LISTED];
        }

        int heightOf(int cell) {
            return (int) (heights >>> Ground.placeOf(cell)) & 3;
        }

        void find(Ground ground) {
            if (isAsked(ground)) {
                return;
            }
            asked.become(ground);
            listRows();
            for (int y = asked.rows - 1; y >= 0; y--) {
                for (int i = 0; i < listed; i++) {
                    setFewest(y, i, fewestFrom(y, i));
                }
            }
            choose();
        }

        private boolean isAsked(Ground ground) {
            return asked.columns == ground.columns && asked.rows == ground.rows
                && asked.heights == ground.heights && asked.fixed == ground.fixed;
        }

        private void listRows() {
            listed = 0;
            for (int row = 0; row < 1 << 2 * asked.columns; row++) {
                int standingOfRow = standingOf(row);
                int nearOfRow = nearOf(row);
                if (meets(standingOfRow, nearOfRow) && listed < MOST_LISTED) {
                    rows[listed] = row;
                    standing[listed] = standingOfRow;
                    near[listed] = nearOfRow;
                    listed++;
                }
            }
        }

        private int standingOf(int row) {
            int bits = 0;
            for (int i = 0; i < asked.columns; i++) {
                bits |= 1 << 4 * i + (row >> 2 * i & 3);
            }
            return bits;
        }

        private int nearOf(int row) {
            int bits = 0;
            for (int i = 0; i < asked.columns; i++) {
                bits |= NEAR[row >> 2 * i & 3] << 4 * i;
            }
            int ofOneSide = bits << 4 | 15;
            int ofOther = bits >> 4 | 15 << 4 * (asked.columns - 1);
            return bits & ofOneSide & ofOther;
        }

        private static boolean meets(int standing, int near) {
            return (standing & ~near) == 0;
        }

        /** The fewest changes in row y and below, if row y is the i-th of those listed. */
        private int fewestFrom(int y, int i) {
            int own = changesTo(y, rowAt(i));
            if (own >= NO_WAY || y + 1 >= asked.rows) {
                return own;
            }
            return Math.min(NO_WAY, own + fewestOf(y + 1, nearAt(i)));
        }

        private int changesTo(int y, int row) {
            int unlike = row ^ asked.heightsOfRow(y);
            int unlikeCells = (unlike | unlike >> 1) & LOWER_BITS;
            return (unlikeCells & asked.fixedOfRow(y)) != 0 ? NO_WAY : Integer.bitCount(unlikeCells);
        }

        /** The fewest changes in row y and below, if row y meets what is near above. */
        private int fewestOf(int y, int nearAbove) {
            int least = NO_WAY;
            for (int i = 0; i < listed && i < MOST_LISTED; i++) {
                if (meets(standing[i], nearAbove)) {
                    least = Math.min(least, fewestAt(y, i));
                }
            }
            return least;
        }

        private void choose() {
            int left = fewestOf(0, ANY);
            int nearAbove = ANY;
            changed = left < NO_WAY ? left : NONE;
            heights = 0;
            for (int y = 0; y < asked.rows && changed != NONE; y++) {
                int i = firstThatLeaves(y, nearAbove, left);
                heights |= (long) rowAt(i) << asked.placeOfRow(y);
                left -= changesTo(y, rowAt(i));
                nearAbove = nearAt(i);
            }
        }

        /** Rows are listed as numbers grow, so the first has the lesser height where two differ. */
        private int firstThatLeaves(int y, int nearAbove, int left) {
            int i = 0;
            while (i < listed && i < MOST_LISTED
                && (!meets(standing[i], nearAbove) || fewestAt(y, i) != left)) {
                i++;
            }
            return i;
        }

        private int rowAt(int i) {
            return i >= 0 && i < rows.length ? rows[i] : 0;
        }

        private int nearAt(int i) {
            return i >= 0 && i < near.length ? near[i] : 0;
        }

        private int fewestAt(int y, int i) {
            int place = y * MOST_LISTED + i;
            return place >= 0 && place < fewest.length ? fewest[place] : NO_WAY;
        }

        private void setFewest(int y, int i, int changes) {
            int place = y * MOST_LISTED + i;
            if (place >= 0 && place < fewest.length) {
                fewest[place] = changes;
            }
        }
    }

    /** What was SEEN of an unknown cell. */
    private static final class Seen {
        private static final int MOST_SEEN = 6;

        private final int[] layers;
        private final int[] squares;
        /** How many cells have each square, and none, in the layer that is looked at. */
        private final int[] alike;
        private int known;

        Seen() {
            layers = new int[MOST_SEEN];
            squares = new int[MOST_SEEN];
            alike = new int[SQUARES + 1];
        }

        boolean add(int layer, int square) {
            if (known < 0 || known >= MOST_SEEN) {
                return false;
            }
            layers[known] = layer;
            squares[known] = square;
            known++;
            return true;
        }

        /** The cells by which all that was SEEN is so, a bit each, by their numbers. */
        int cellsThatFit(Ground ground) {
            int cells = 0;
            for (int y = 0; y < ground.rows; y++) {
                for (int x = 0; x < ground.columns; x++) {
                    if (fits(ground, x, y)) {
                        cells |= 1 << ground.numberOf(x, y);
                    }
                }
            }
            return cells;
        }

        private boolean fits(Ground ground, int x, int y) {
            for (int i = 0; i < known && i < MOST_SEEN; i++) {
                if (ground.squareOf(x, y, layers[i]) != squares[i]) {
                    return false;
                }
            }
            return true;
        }

        /** Of some cells, the greatest number that have one square, or none, in a layer. */
        int mostAlike(Ground ground, int cells, int layer) {
            for (int i = 0; i < alike.length; i++) {
                alike[i] = 0;
            }
            int most = 0;
            for (int y = 0; y < ground.rows; y++) {
                for (int x = 0; x < ground.columns; x++) {
                    int square = ground.squareOf(x, y, layer);
                    boolean isOne = (cells >> ground.numberOf(x, y) & 1) == 1;
                    if (isOne && square >= 0 && square < alike.length) {
                        alike[square]++;
                        most = Math.max(most, alike[square]);
                    }
                }
            }
            return most;
        }
    }
}
