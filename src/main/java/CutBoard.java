import java.util.Arrays;

/**
 * A relief printer's table: one board that is cut away between pulls, its inks, its sheets,
 * its day book, and the rows of inks that make a wanted picture.
 */
public final class CutBoard {
    public static final int NONE = -1, FULL = -2, STATE = -3, NOT = -4;

    private static final int SIDE = 8;
    private static final int CELLS = SIDE * SIDE;
    private static final int PIECES = 8;
    private static final int INKS = 10;
    private static final int COLOURS = 16;
    private static final int PAPER = 0;
    private static final int SHEETS = 20;
    private static final int PULLS = 200;
    private static final int PROOF = -1;
    private static final int BLENDED = 10;
    private static final int LAST_MINUTE = 99999;
    private static final int PICTURE_SIDE = 4;
    private static final int PICTURE_CELLS = PICTURE_SIDE * PICTURE_SIDE;
    private static final int ROW_INKS = 5;
    private static final int MOST_TO_BEGIN = 100000;

    private final Inks inks = new Inks();
    private final Lots register = new Lots();
    private final Sheet[] ready = new Sheet[SHEETS];
    private final Entry[] entries = new Entry[PULLS];
    private final int[] roll = new int[SIDE];
    private final RowSearch search = new RowSearch(inks);
    private final Plan plan = new Plan();
    /** A board without cells stands for "no board yet", so that no call meets a null. */
    private Board relief = new Board(0, 0);
    /** A picture without cells stands for "no WANTED". */
    private Picture picture = new Picture(0, 0);
    private int readySheets = 0;
    private int pulls = 0;
    private int minute = 0;

    public CutBoard() {
    }

    public int board(int rows, int columns) {
        if (!within(rows, 1, SIDE) || !within(columns, 1, SIDE)) {
            return NONE;
        }
        if (relief.isTold()) {
            return STATE;
        }
        relief = new Board(rows, columns);
        return 1;
    }

    public int table(int ink, int colour, int makes) {
        if (!isInk(ink) || !isColour(colour) || !isColour(makes)) {
            return NONE;
        }
        return replace(inks.makes[ink], colour, makes);
    }

    public int drying(int ink, int minutes) {
        if (!isInk(ink) || !within(minutes, 0, 999)) {
            return NONE;
        }
        return replace(inks.dryingMinutes, ink, minutes);
    }

    public int against(int lies, int laid, int is) {
        if (!isInk(lies) || !isInk(laid) || !within(is, 0, 1)) {
            return NONE;
        }
        return replace(inks.clashes[lies], laid, is);
    }

    public int mixed(int p, int q, int ink) {
        if (!isInk(p) || !isInk(q) || p == q || !isInk(ink)) {
            return NONE;
        }
        inks.mixtures[q][p] = ink;
        return replace(inks.mixtures[p], q, ink);
    }

    public int lots(int what, int v) {
        if (what == 0 && within(v, 0, 999)) {
            register.slip = v;
            return 1;
        }
        if (what == 1) {
            register.z = v;
            return 1;
        }
        return NONE;
    }

    public int minutes(int n) {
        if (!within(n, 1, 1000) || minute + n > LAST_MINUTE) {
            return NONE;
        }
        minute += n;
        return minute;
    }

    // ---- the board

    public int cut(int cells) {
        Area area = new Area(cells);
        if (!area.liesOn(relief.rows, relief.columns)) {
            return NONE;
        }
        if (relief.standsInOutPiece(area)) {
            return STATE;
        }
        return relief.cutAway(area);
    }

    public int saw(int piece, int cells) {
        Area area = new Area(cells);
        if (!relief.hasPiece(piece) || !area.liesOn(relief.rows, relief.columns)) {
            return NONE;
        }
        if (!relief.divides(area, piece)) {
            return NOT;
        }
        if (relief.pieces == PIECES) {
            return FULL;
        }
        return relief.sawFree(area, piece);
    }

    public int piece(int piece, int is) {
        if (!relief.hasPiece(piece) || !within(is, 0, 1)) {
            return NONE;
        }
        return replace(relief.in, piece, is);
    }

    public int cell(int cell, int what) {
        if (!relief.hasCell(cell)) {
            return NONE;
        }
        switch (what) {
            case 0: return relief.standing[cell];
            case 1: return relief.pieceOf[cell];
            default: return NONE;
        }
    }

    public int islands(int what) {
        if (!within(what, 0, 2)) {
            return NONE;
        }
        if (what == 2) {
            return relief.printingCells();
        }
        relief.markIslands();
        return what == 0 ? relief.islandCount : relief.greatestIsland;
    }

    public int joined(int a, int b) {
        if (!relief.hasCell(a) || !relief.hasCell(b)) {
            return NONE;
        }
        relief.markIslands();
        return answer(relief.islandOf[a] != NONE && relief.islandOf[a] == relief.islandOf[b]);
    }

    // ---- sheets, pulls

    public int sheets(int n) {
        if (!within(n, 1, SHEETS) || !relief.isTold()) {
            return NONE;
        }
        if (readySheets + n > SHEETS) {
            return FULL;
        }
        for (int k = 0; k < n; k++) {
            ready[readySheets + k] = new Sheet();
        }
        readySheets += n;
        return readySheets;
    }

    public int pull(int sheets, int ink) {
        if (!isInk(ink)) {
            return NONE;
        }
        Arrays.fill(roll, ink);
        return pullRoll(sheets, ink);
    }

    public int blend(int sheets, int inks) {
        if (!within(inks, 0, 999)) {
            return NONE;
        }
        int p = inks / 100;
        int q = inks / 10 % 10;
        int middle = inks % 10;
        if (p == q || middle >= relief.columns) {
            return NONE;
        }
        Arrays.fill(roll, 0, middle, p);
        roll[middle] = this.inks.mixtures[p][q];
        Arrays.fill(roll, middle + 1, SIDE, q);
        return pullRoll(sheets, BLENDED);
    }

    public int colour(int sheet, int cell) {
        if (!isSheet(sheet) || !relief.hasCell(cell)) {
            return NONE;
        }
        return ready[sheet].colours[cell];
    }

    public int led(int sheet, int cell, int what) {
        if (!isSheet(sheet) || !relief.hasCell(cell)) {
            return NONE;
        }
        switch (what) {
            case 0: return ready[sheet].lastPull[cell];
            case 1: return ready[sheet].timesLaid[cell];
            case 2: return ready[sheet].wetTill[cell];
            default: return NONE;
        }
    }

    public int good(int sheet) {
        return isSheet(sheet) ? answer(ready[sheet].isGood) : NONE;
    }

    public int book(int pull, int what) {
        return within(pull, 0, pulls - 1) ? entries[pull].fact(what) : NONE;
    }

    public int free(int sheets, int ink) {
        if (!areSheets(sheets) || !isInk(ink)) {
            return NONE;
        }
        int from = minute;
        for (int sheet = firstOf(sheets); sheet <= lastOf(sheets); sheet++) {
            from = Math.max(from, ready[sheet].dryFor(ink, relief, inks));
        }
        return from;
    }

    // ---- pictures

    public int wanted(int rows, int columns) {
        if (!within(rows, 1, PICTURE_SIDE) || !within(columns, 1, PICTURE_SIDE)) {
            return NONE;
        }
        picture = new Picture(rows, columns);
        return 1;
    }

    public int want(int cell, int colour) {
        if (!picture.hasCell(cell) || !isColour(colour)) {
            return NONE;
        }
        return replace(picture.colours, cell, colour);
    }

    public int fewest(int inks) {
        if (!picture.isTold() || !isInkSet(inks)) {
            return NONE;
        }
        int length = search.leastPulls(inks, picture.colourSet());
        if (length != NOT) {
            search.writeRow(length, plan.row);
            plan.keepPlaces(picture, this.inks);
        }
        return length;
    }

    public int order(int k) {
        return within(k, 0, plan.row.length - 1) ? plan.row.inks[k] : NONE;
    }

    public int place(int cell) {
        return within(cell, 0, PICTURE_CELLS - 1) ? plan.places[cell] : NONE;
    }

    public int why(int inks) {
        if (!picture.isTold() || !isInkSet(inks)) {
            return NONE;
        }
        int colours = picture.colourSet();
        int never = colours & ~this.inks.reachedBy(inks);
        if (never != 0) {
            return never;
        }
        boolean together = search.leastPulls(inks, colours) != NOT;
        return together ? 0 : withoutPaper(colours);
    }

    public int alike(int row, int other, int colours) {
        if (!InkRow.isRow(row) || !InkRow.isRow(other) || !within(colours, 0, (1 << COLOURS) - 1)) {
            return NONE;
        }
        int both = new InkRow(row).coloursMade(inks) & new InkRow(other).coloursMade(inks);
        return answer((colours & ~both) == 0);
    }

    public int made(int row, int k) {
        if (!InkRow.isRow(row)) {
            return NONE;
        }
        InkRow told = new InkRow(row);
        return within(k, 0, told.length) ? told.colourAfter(k, inks) : NONE;
    }

    public int begin(int n, int slip, int w) {
        if (!within(n, 0, 20) || !within(slip, 0, 999) || !within(w, 1, 100)) {
            return NONE;
        }
        // Backwards from the last pull: the least number whose share, the rest away, is enough.
        int least = w;
        int kept = 1000 - slip;
        for (int k = 0; k < n && least <= MOST_TO_BEGIN; k++) {
            least = (least * 1000 + kept - 1) / kept;
        }
        return least <= MOST_TO_BEGIN ? least : NOT;
    }

    public int shows(int sheet) {
        if (!isSheet(sheet) || !picture.isTold()
                || picture.rows > relief.rows || picture.columns > relief.columns) {
            return NONE;
        }
        return answer(picture.isOn(ready[sheet]));
    }

    public int count(int what) {
        switch (what) {
            case 0: return relief.pieces;
            case 1: return readySheets;
            case 2: return goodSheets();
            case 3: return pulls;
            case 4: return minute;
            case 5: return relief.standingCells();
            case 6: return relief.rows * relief.columns - relief.standingCells();
            default: return NONE;
        }
    }

    // ---- what the calls share

    private static boolean within(int v, int least, int most) {
        return v >= least && v <= most;
    }

    private static boolean isInk(int ink) {
        return within(ink, 0, INKS - 1);
    }

    private static boolean isColour(int colour) {
        return within(colour, 0, COLOURS - 1);
    }

    private static boolean isInkSet(int set) {
        return within(set, 0, (1 << INKS) - 1);
    }

    private static boolean has(int set, int member) {
        return (set >>> member & 1) == 1;
    }

    private static int withoutPaper(int colours) {
        return colours & ~(1 << PAPER);
    }

    private static int answer(boolean is) {
        return is ? 1 : 0;
    }

    private static int replace(int[] told, int at, int v) {
        int was = told[at];
        told[at] = v;
        return was;
    }

    private boolean isSheet(int sheet) {
        return within(sheet, 0, readySheets - 1);
    }

    private static int firstOf(int told) {
        return told / 100;
    }

    private static int lastOf(int told) {
        return told % 100;
    }

    private boolean areSheets(int told) {
        return told >= 0 && firstOf(told) <= lastOf(told) && isSheet(lastOf(told));
    }

    private int goodSheets() {
        int found = 0;
        for (int sheet = 0; sheet < readySheets; sheet++) {
            found += answer(ready[sheet].isGood);
        }
        return found;
    }

    private int pullRoll(int told, int inkInBook) {
        if (!relief.isTold() || (told != PROOF && !areSheets(told))) {
            return NONE;
        }
        if (pulls == PULLS) {
            return FULL;
        }
        int laid = 0;
        int spoiled = 0;
        if (told != PROOF) {
            laid = relief.printingCells();
            spoiled = pullSheets(firstOf(told), lastOf(told));
        }
        entries[pulls] = new Entry(inkInBook, minute, told, laid, spoiled);
        pulls++;
        return pulls - 1;
    }

    /** Answers how many sheets this pull spoiled. */
    private int pullSheets(int first, int last) {
        int spoiled = 0;
        for (int k = first; k <= last; k++) {
            Sheet sheet = ready[k];
            if (!sheet.isGood) {
                continue;
            }
            if (register.slips()) {
                sheet.isGood = false;
            } else {
                layRoll(sheet);
            }
            spoiled += answer(!sheet.isGood);
        }
        return spoiled;
    }

    private void layRoll(Sheet sheet) {
        for (int cell = 0; cell < CELLS; cell++) {
            if (relief.prints(cell)) {
                sheet.take(roll[cell % SIDE], cell, inks, minute);
                sheet.lastPull[cell] = pulls;
            }
        }
    }

    /** What is told of the inks. */
    private static final class Inks {
        private final int[][] makes = new int[INKS][COLOURS];
        private final int[] dryingMinutes = new int[INKS];
        /** By the ink that lies there, then the one laid on it. */
        private final int[][] clashes = new int[INKS][INKS];
        /** Kept both ways round. */
        private final int[][] mixtures = new int[INKS][INKS];

        private Inks() {
            Arrays.fill(dryingMinutes, 60);
            for (int ink = 0; ink < INKS; ink++) {
                Arrays.fill(makes[ink], ink + 1);
            }
        }

        /** The colours that rows of the allowed inks make at any place. */
        private int reachedBy(int allowed) {
            int reached = 1 << PAPER;
            for (int k = 0; k < ROW_INKS; k++) {
                reached |= oneInkOn(reached, allowed);
            }
            return reached;
        }

        private int oneInkOn(int colours, int allowed) {
            int next = 0;
            for (int ink = 0; ink < INKS; ink++) {
                for (int colour = 0; colour < COLOURS; colour++) {
                    if (has(allowed, ink) && has(colours, colour)) {
                        next |= 1 << makes[ink][colour];
                    }
                }
            }
            return next;
        }
    }

    /** The throws that tell whether a sheet is off in a pull. */
    private static final class Lots {
        private int z = 0;
        private int slip = 0;

        private boolean slips() {
            z = z * 1103515245 + 12345;
            return (z >>> 8) % 1000 < slip;
        }
    }

    /** A rectangle of cells, as one number tells it. */
    private static final class Area {
        private final int firstRow;
        private final int lastRow;
        private final int firstColumn;
        private final int lastColumn;

        private Area(int told) {
            // Rounding down lets no negative number pass for a rectangle: its first row is below 0.
            firstRow = Math.floorDiv(told, 512);
            lastRow = Math.floorMod(told, 512) / 64;
            firstColumn = Math.floorMod(told, 64) / 8;
            lastColumn = Math.floorMod(told, 8);
        }

        private boolean liesOn(int rows, int columns) {
            return firstRow >= 0 && firstRow <= lastRow && lastRow < rows
                    && firstColumn <= lastColumn && lastColumn < columns;
        }

        private boolean covers(int cell) {
            return within(cell / SIDE, firstRow, lastRow) && within(cell % SIDE, firstColumn, lastColumn);
        }
    }

    /** Cells go by their told number, 8 times the row and the column; those beside the board stay empty. */
    private static final class Board {
        private static final int[] ROW_STEPS = {-1, 1, 0, 0};
        private static final int[] COLUMN_STEPS = {0, 0, -1, 1};

        private final int rows;
        private final int columns;
        private final int[] standing = new int[CELLS];
        private final int[] pieceOf = new int[CELLS];
        private final int[] in = new int[PIECES];
        private int pieces;
        /** NONE for a cell that is in no island; only as of the latest markIslands(). */
        private final int[] islandOf = new int[CELLS];
        private final int[] found = new int[CELLS];
        private int islandCount;
        private int greatestIsland;

        private Board(int rows, int columns) {
            this.rows = rows;
            this.columns = columns;
            for (int row = 0; row < rows; row++) {
                Arrays.fill(standing, row * SIDE, row * SIDE + columns, 1);
            }
            pieces = rows > 0 ? 1 : 0;
            in[0] = 1;
        }

        private boolean isTold() {
            return rows > 0;
        }

        private boolean isAt(int row, int column) {
            return within(row, 0, rows - 1) && within(column, 0, columns - 1);
        }

        private boolean hasCell(int cell) {
            return cell >= 0 && isAt(cell / SIDE, cell % SIDE);
        }

        private boolean hasPiece(int piece) {
            return within(piece, 0, pieces - 1);
        }

        private boolean stands(int cell) {
            return standing[cell] == 1;
        }

        private boolean isIn(int cell) {
            return in[pieceOf[cell]] == 1;
        }

        private boolean prints(int cell) {
            return stands(cell) && isIn(cell);
        }

        private int standingCells() {
            int sum = 0;
            for (int cell = 0; cell < CELLS; cell++) {
                sum += standing[cell];
            }
            return sum;
        }

        private int printingCells() {
            int sum = 0;
            for (int cell = 0; cell < CELLS; cell++) {
                sum += answer(prints(cell));
            }
            return sum;
        }

        private boolean standsInOutPiece(Area area) {
            for (int cell = 0; cell < CELLS; cell++) {
                if (area.covers(cell) && stands(cell) && !isIn(cell)) {
                    return true;
                }
            }
            return false;
        }

        private int cutAway(Area area) {
            int stood = 0;
            for (int cell = 0; cell < CELLS; cell++) {
                if (area.covers(cell)) {
                    stood += replace(standing, cell, 0);
                }
            }
            return stood;
        }

        /** Whether the area takes some cells of the piece, but not all. */
        private boolean divides(Area area, int piece) {
            boolean takes = false;
            boolean leaves = false;
            for (int cell = 0; cell < CELLS; cell++) {
                if (hasCell(cell) && pieceOf[cell] == piece) {
                    takes |= area.covers(cell);
                    leaves |= !area.covers(cell);
                }
            }
            return takes && leaves;
        }

        private int sawFree(Area area, int piece) {
            int made = pieces;
            pieces++;
            in[made] = in[piece];
            for (int cell = 0; cell < CELLS; cell++) {
                if (area.covers(cell) && pieceOf[cell] == piece) {
                    pieceOf[cell] = made;
                }
            }
            return made;
        }

        private void markIslands() {
            Arrays.fill(islandOf, NONE);
            islandCount = 0;
            greatestIsland = 0;
            for (int cell = 0; cell < CELLS; cell++) {
                if (prints(cell) && islandOf[cell] == NONE) {
                    greatestIsland = Math.max(greatestIsland, markIsland(cell));
                    islandCount++;
                }
            }
        }

        /** Answers how many cells the island of this cell has. */
        private int markIsland(int start) {
            found[0] = start;
            islandOf[start] = islandCount;
            int size = 1;
            for (int k = 0; k < size && k < CELLS; k++) {
                size = findNeighbours(found[k], size);
            }
            return size;
        }

        /** Writes the new neighbours behind those found; answers how many there are then. */
        private int findNeighbours(int cell, int size) {
            int after = size;
            for (int side = 0; side < ROW_STEPS.length; side++) {
                int row = cell / SIDE + ROW_STEPS[side];
                int column = cell % SIDE + COLUMN_STEPS[side];
                int next = row * SIDE + column;
                if (isAt(row, column) && islandOf[next] == NONE && after < CELLS
                        && prints(next) && pieceOf[next] == pieceOf[cell]) {
                    islandOf[next] = islandCount;
                    found[after] = next;
                    after++;
                }
            }
            return after;
        }
    }

    /** A sheet's cells go by the numbers of the board's cells. */
    private static final class Sheet {
        private final int[] colours = new int[CELLS];
        private final int[] lastInk = new int[CELLS];
        private final int[] lastPull = new int[CELLS];
        private final int[] timesLaid = new int[CELLS];
        private final int[] wetTill = new int[CELLS];
        private boolean isGood = true;

        private Sheet() {
            Arrays.fill(lastPull, NONE);
        }

        private void take(int ink, int cell, Inks inks, int minute) {
            if (minute < wetTill[cell] && inks.clashes[lastInk[cell]][ink] == 1) {
                isGood = false;
            }
            colours[cell] = inks.makes[ink][colours[cell]];
            lastInk[cell] = ink;
            wetTill[cell] = minute + inks.dryingMinutes[ink];
            timesLaid[cell]++;
        }

        /** The minute from which this ink meets no wet ink that is told against it; a spoiled sheet gets none. */
        private int dryFor(int ink, Board relief, Inks inks) {
            int from = 0;
            for (int cell = 0; isGood && cell < CELLS; cell++) {
                if (relief.prints(cell) && inks.clashes[lastInk[cell]][ink] == 1) {
                    from = Math.max(from, wetTill[cell]);
                }
            }
            return from;
        }
    }

    /** A pull as the book keeps it. */
    private static final class Entry {
        private final int ink;
        private final int minute;
        private final int sheetsTold;
        private final int laid;
        private final int spoiled;

        private Entry(int ink, int minute, int sheetsTold, int laid, int spoiled) {
            this.ink = ink;
            this.minute = minute;
            this.sheetsTold = sheetsTold;
            this.laid = laid;
            this.spoiled = spoiled;
        }

        private int fact(int what) {
            switch (what) {
                case 0: return ink;
                case 1: return minute;
                case 2: return sheetsTold;
                case 3: return laid;
                case 4: return spoiled;
                default: return NONE;
            }
        }
    }

    /** WANTED; cells go by their told number, 4 times the row and the column. */
    private static final class Picture {
        private final int rows;
        private final int columns;
        private final int[] colours = new int[PICTURE_CELLS];

        private Picture(int rows, int columns) {
            this.rows = rows;
            this.columns = columns;
        }

        private boolean isTold() {
            return rows > 0;
        }

        private boolean isAt(int row, int column) {
            return within(row, 0, rows - 1) && within(column, 0, columns - 1);
        }

        private boolean hasCell(int cell) {
            return cell >= 0 && isAt(cell / PICTURE_SIDE, cell % PICTURE_SIDE);
        }

        private int colourSet() {
            int set = 0;
            for (int cell = 0; cell < PICTURE_CELLS; cell++) {
                if (hasCell(cell)) {
                    set |= 1 << colours[cell];
                }
            }
            return set;
        }

        private boolean isOn(Sheet sheet) {
            for (int cell = 0; cell < CELLS; cell++) {
                if (sheet.colours[cell] != colourAt(cell / SIDE, cell % SIDE)) {
                    return false;
                }
            }
            return true;
        }

        private int colourAt(int row, int column) {
            return isAt(row, column) ? colours[row * PICTURE_SIDE + column] : PAPER;
        }
    }

    /** A row of at most five inks, laid one on the other on paper. */
    private static final class InkRow {
        private static final int BASE = INKS + 1;
        private static final int MOST_TOLD = 161050;

        private final int[] inks = new int[ROW_INKS];
        private int length = 0;

        private InkRow() {
        }

        /** Only for a number that isRow(). */
        private InkRow(int told) {
            for (int unit = 14641; unit > 0; unit /= BASE) {
                int digit = told / unit % BASE;
                if (digit > 0 && length < ROW_INKS) {
                    inks[length] = digit - 1;
                    length++;
                }
            }
        }

        private static boolean isRow(int told) {
            if (!within(told, 0, MOST_TOLD)) {
                return false;
            }
            for (int rest = told; rest > 0; rest /= BASE) {
                if (rest % BASE == 0) {
                    return false;
                }
            }
            return true;
        }

        private int colourAfter(int k, Inks table) {
            int colour = PAPER;
            for (int at = 0; at < k && at < length; at++) {
                colour = table.makes[inks[at]][colour];
            }
            return colour;
        }

        private int coloursMade(Inks table) {
            int set = 0;
            for (int k = 0; k <= length; k++) {
                set |= 1 << colourAfter(k, table);
            }
            return set;
        }

        /** The least place that gives the colour. */
        private int leastPlace(int colour, Inks table) {
            for (int k = 0; k <= length; k++) {
                if (colourAfter(k, table) == colour) {
                    return k;
                }
            }
            return NONE;
        }
    }

    /** What the latest fewest() that found a row left: later calls change neither row nor places. */
    private static final class Plan {
        private final InkRow row = new InkRow();
        private final int[] places = new int[PICTURE_CELLS];

        private Plan() {
            Arrays.fill(places, NONE);
        }

        private void keepPlaces(Picture picture, Inks table) {
            for (int cell = 0; cell < PICTURE_CELLS; cell++) {
                places[cell] = picture.hasCell(cell) ? row.leastPlace(picture.colours[cell], table) : NONE;
            }
        }
    }

    /**
     * Finds the fewest pulls without trying each row. Of the picture's colours that are not paper
     * at most five can be made, so what a row has made so far is one of 32 sets, and a collection
     * of such sets is the 32 bits of an int: bit s stands for the set s.
     */
    private static final class RowSearch {
        /** At k: the collection of all sets that hold the needed colour k. */
        private static final int[] HOLDING = {0xAAAAAAAA, 0xCCCCCCCC, 0xF0F0F0F0, 0xFF00FF00, 0xFFFF0000};

        /** The number of a needed colour, 0 .. 4; NONE for the others. */
        private final int[] numberOf = new int[COLOURS];
        /** By pulls to go and the colour reached: the sets from which just so many pulls make the rest. */
        private final int[][] endings = new int[ROW_INKS + 1][COLOURS];
        private final Inks table;
        private int allowed = 0;

        private RowSearch(Inks table) {
            this.table = table;
        }

        /** The least number of pulls that make all the colours, or NOT. */
        private int leastPulls(int allowedInks, int colours) {
            int needed = Integer.bitCount(withoutPaper(colours));
            if (needed > ROW_INKS) {
                return NOT;
            }
            allowed = allowedInks;
            numberNeeded(withoutPaper(colours));
            int all = (1 << needed) - 1;
            Arrays.fill(endings[0], 1 << all);
            if (needed == 0) {
                return 0;
            }
            for (int pulls = 1; pulls <= ROW_INKS; pulls++) {
                fillEndings(pulls);
                if (has(endings[pulls][PAPER], 0)) {
                    return pulls;
                }
            }
            return NOT;
        }

        private void numberNeeded(int colours) {
            int next = 0;
            for (int colour = 0; colour < COLOURS; colour++) {
                numberOf[colour] = NONE;
                if (has(colours, colour) && next < ROW_INKS) {
                    numberOf[colour] = next;
                    next++;
                }
            }
        }

        private void fillEndings(int pulls) {
            for (int colour = 0; colour < COLOURS; colour++) {
                int sets = 0;
                for (int ink = 0; ink < INKS; ink++) {
                    if (has(allowed, ink)) {
                        int next = table.makes[ink][colour];
                        sets |= setsAhead(endings[pulls - 1][next], next);
                    }
                }
                endings[pulls][colour] = sets;
            }
        }

        /** The sets that become one of these when the colour is made. */
        private int setsAhead(int sets, int colour) {
            int number = numberOf[colour];
            if (number == NONE) {
                return sets;
            }
            int holding = sets & HOLDING[number];
            return holding | holding >>> (1 << number);
        }

        /** The first row by numbers, of the length that leastPulls() answered last. */
        private void writeRow(int length, InkRow row) {
            int colour = PAPER;
            int set = 0;
            row.length = length;
            for (int k = 0; k < length; k++) {
                int ink = firstInk(colour, set, length - k - 1);
                row.inks[k] = ink;
                colour = table.makes[ink][colour];
                set = setWith(set, colour);
            }
        }

        private int firstInk(int colour, int set, int toGo) {
            for (int ink = 0; ink < INKS; ink++) {
                int next = table.makes[ink][colour];
                if (has(allowed, ink) && has(endings[toGo][next], setWith(set, next))) {
                    return ink;
                }
            }
            return 0;
        }

        private int setWith(int set, int colour) {
            return numberOf[colour] == NONE ? set : set | 1 << numberOf[colour];
        }
    }
}
