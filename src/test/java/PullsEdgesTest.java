import java.util.function.Supplier;

/** The boundary cases that the document names for promises 15 to 22, a test for each sentence. */
public final class PullsEdgesTest {
    private static final Due DUE = new Due();
    private static final Edges EDGES = new Edges(DUE);
    private static final int[][] SIZES = {{1, 1}, {1, 8}, {8, 1}, {8, 8}, {3, 5}};
    private static final int ALWAYS_OFF = 999;

    public static void main(String[] args) {
        sheets1To20();
        sheetsFull();
        paperAndGoodAtFirst();
        pullTakesSheetsThatAreReady();
        pullTakesInks0To9();
        pullLaysOnFirstToLast();
        laysEachStandingCellOfPiecesIn();
        laidAllTheSame();
        wetOfTheInkThatWasLaidLast();
        oneThrowForEachGoodSheetByNumbers();
        aSpoiledOneGetsNoInk();
        bookAtMost200();
        aProofIsKeptAndLaysNothing();
        blendTakesTwoUnlikeInksAndAColumn();
        blendTakesSheetsThatAreReady();
        blendAtTheFirstAndTheLastColumn();
        blendMixedEitherWayTheSame();
        colourTakesSheetsAndCells();
        ledTakesSheetsCellsAndWhat0To2();
        ledOfNoneAndOfMany();
        goodTakesSheetsThatAreReady();
        bookTakesPullsThatAreKeptAndWhat0To4();
        bookAsTold();
        freeTakesSheetsThatAreReadyAndInks();
        freeAtLeastMinute();
        freeBeyondTheLastMinute();
        freeLooksWhereAPullWouldLay();
        DUE.end();
    }

    private static Supplier<CutBoard> sheets(int rows, int columns, int sheets) {
        return () -> Due.withSheets(rows, columns, sheets);
    }

    /** "SHEETS more are laid ready: how many there are. NONE (n 1 .. 20; no BOARD)" */
    private static void sheets1To20() {
        for (int[] size : SIZES) {
            EDGES.sweep("sheets", () -> Due.withBoard(size[0], size[1]), CutBoard::sheets, -130, 300,
                v -> v >= 1 && v <= 20 ? v : CutBoard.NONE);
        }
        EDGES.none("sheets without a board", CutBoard::new, CutBoard::sheets, -1, 0, 1, 2, 19, 20, 21);
    }

    /** "SHEETS 0 .. 19", "NONE ..., FULL" */
    private static void sheetsFull() {
        for (int there = 1; there <= 20; there++) {
            for (int n = 0; n <= 21; n++) {
                CutBoard x = Due.withSheets(2, 2, there);
                boolean asSaid = n >= 1 && n <= 20;
                boolean room = there + n <= 20;
                int due = !asSaid ? CutBoard.NONE : room ? there + n : CutBoard.FULL;
                DUE.is(n + " more than " + there, x.sheets(n), due);
                DUE.is(n + " more than " + there + ", then", x.count(1), due > 0 ? due : there);
                DUE.is("all are good", x.count(2), due > 0 ? due : there);
            }
        }
        CutBoard x = Due.withBoard(1, 1);
        for (int k = 1; k <= 20; k++) {
            DUE.is("one by one", x.sheets(1), k);
        }
        DUE.is("one too many", x.sheets(1), CutBoard.FULL);
        DUE.is("sheet 19", x.good(19), 1);
        DUE.is("no sheet 20", x.good(20), CutBoard.NONE);
        EDGES.none("NONE is named ahead of FULL", sheets(1, 1, 20), CutBoard::sheets, 0, -1, 21, Edges.MIN, Edges.MAX);
    }

    /** "each a picture of CELLS (COLOURS; paper at first), GOOD or SPOILED" */
    private static void paperAndGoodAtFirst() {
        CutBoard x = Due.withSheets(8, 8, 1);
        x.pull(0, 9);
        x.cut(Due.area(0, 7, 0, 7));
        x.sheets(1);
        for (int cell = 0; cell < 64; cell++) {
            DUE.is("ink on the one that was pulled", x.colour(0, cell), 10);
            DUE.is("paper on a later one", x.colour(1, cell), 0);
            DUE.is("never laid", x.led(1, cell, 0), -1);
            DUE.is("never wet", x.led(1, cell, 2), 0);
        }
        DUE.is("good at first", x.good(1), 1);
    }

    private static boolean areSheets(int told, int there) {
        return told >= 0 && told / 100 <= told % 100 && told % 100 < there;
    }

    /** "sheets: 100 times the first, and the last (-1: a PROOF). NONE" */
    private static void pullTakesSheetsThatAreReady() {
        for (int there : new int[] {1, 2, 7, 20}) {
            EDGES.sweep("pull of " + there, sheets(2, 2, there), (x, v) -> x.pull(v, 0), -350, 2600,
                v -> v == -1 || areSheets(v, there) ? 0 : CutBoard.NONE);
        }
        EDGES.sweep("pull of no sheets", () -> Due.withBoard(2, 2), (x, v) -> x.pull(v, 0), -350, 2600,
            v -> v == -1 ? 0 : CutBoard.NONE);
        CutBoard x = Due.withSheets(1, 1, 20);
        DUE.is("the first alone", x.pull(0, 0), 0);
        DUE.is("the last alone", x.pull(1919, 0), 1);
        DUE.is("all", x.pull(19, 0), 2);
        DUE.is("one beyond the last", x.pull(20, 0), CutBoard.NONE);
        DUE.is("first and last beyond", x.pull(2020, 0), CutBoard.NONE);
        DUE.is("last ahead of first", x.pull(1918, 0), CutBoard.NONE);
        DUE.is("the refused are not kept", x.count(3), 3);
    }

    private static void pullTakesInks0To9() {
        for (int told : new int[] {-1, 0, 1, 101}) {
            EDGES.range("pull, ink, sheets " + told, sheets(1, 1, 2), (x, v) -> x.pull(told, v), 0, 9);
        }
        for (int ink = 0; ink < 10; ink++) {
            CutBoard x = Due.withSheets(1, 1, 1);
            x.pull(0, ink);
            DUE.is("the ink's colour", x.colour(0, 0), ink + 1);
        }
    }

    /** "A PULL of SHEETS from a to b" */
    private static void pullLaysOnFirstToLast() {
        for (int first = 0; first < 20; first++) {
            for (int last = first; last < 20; last++) {
                CutBoard x = Due.withSheets(1, 1, 20);
                x.pull(100 * first + last, 3);
                for (int sheet = 0; sheet < 20; sheet++) {
                    boolean pulled = sheet >= first && sheet <= last;
                    DUE.is(first + " to " + last + ", sheet " + sheet, x.colour(sheet, 0), pulled ? 4 : 0);
                }
                DUE.is("as told", x.book(0, 2), 100 * first + last);
            }
        }
    }

    /** "each standing CELL of a PIECE that is IN lays its INK on that CELL of each GOOD SHEET" */
    private static void laysEachStandingCellOfPiecesIn() {
        for (int[] size : SIZES) {
            int last = Due.at(size[0] - 1, size[1] - 1);
            CutBoard all = Due.withSheets(size[0], size[1], 1);
            all.pull(0, 0);
            DUE.is("all stand", all.book(0, 3), size[0] * size[1]);
            DUE.is("the first cell", all.colour(0, 0), 1);
            DUE.is("the last cell", all.colour(0, last), 1);
            all.cut(Due.area(0, size[0] - 1, 0, size[1] - 1));
            all.pull(0, 1);
            DUE.is("none stands", all.book(1, 3), 0);
            DUE.is("the first cell stays", all.colour(0, 0), 1);
            DUE.is("the last cell stays", all.led(0, last, 1), 1);
            DUE.is("and the sheet is good", all.good(0), 1);
        }
        for (int cell = 0; cell < 64; cell++) {
            CutBoard x = Due.withSheets(8, 8, 1);
            x.cut(Due.area(cell / 8, cell / 8, cell % 8, cell % 8));
            x.pull(0, 0);
            DUE.is("one is cut", x.book(0, 3), 63);
            DUE.is("and is paper", x.colour(0, cell), 0);
            DUE.is("the next one is not", x.colour(0, (cell + 1) % 64), 1);
        }
    }

    /** "the SHEET is SPOILED (all CELLS are laid all the same)" */
    private static void laidAllTheSame() {
        for (int wet = 0; wet < 4; wet++) {
            CutBoard x = Due.withSheets(2, 2, 3);
            x.against(1, 2, 1);
            for (int cell = 0; cell < 4; cell++) {
                x.saw(0, Due.area(cell / 2, cell / 2, cell % 2, cell % 2));
            }
            for (int piece = 0; piece < 4; piece++) {
                x.piece(piece, 0);
            }
            x.piece(x.cell(Due.at(wet / 2, wet % 2), 1), 1);
            x.pull(101, 1);
            for (int piece = 0; piece < 4; piece++) {
                x.piece(piece, 1);
            }
            DUE.is("the pull", x.pull(2, 2), 1);
            DUE.is("one wet cell spoils its sheet", x.good(1), 0);
            DUE.is("the one ahead is good", x.good(0), 1);
            DUE.is("the one behind is good", x.good(2), 1);
            DUE.is("one was spoiled", x.book(1, 4), 1);
            DUE.is("four cells", x.book(1, 3), 4);
            for (int cell = 0; cell < 4; cell++) {
                for (int sheet = 0; sheet < 3; sheet++) {
                    DUE.is("laid all the same", x.colour(sheet, Due.at(cell / 2, cell % 2)), 3);
                    DUE.is("by this pull", x.led(sheet, Due.at(cell / 2, cell % 2), 0), 1);
                    DUE.is("and wet by it", x.led(sheet, Due.at(cell / 2, cell % 2), 2), 60);
                }
            }
        }
    }

    /** "WET ON WET of the two INKS (that laid there last, this one)" */
    private static void wetOfTheInkThatWasLaidLast() {
        CutBoard x = Due.withSheets(1, 1, 1);
        x.against(1, 3, 1);
        x.pull(0, 1);
        x.pull(0, 2);
        x.pull(0, 3);
        DUE.is("ink 2 lies between", x.good(0), 1);
        CutBoard y = Due.withSheets(1, 1, 1);
        y.drying(1, 100);
        y.drying(2, 10);
        y.against(1, 3, 1);
        y.against(2, 3, 1);
        y.pull(0, 1);
        y.pull(0, 2);
        DUE.is("wet as the last one is", y.led(0, 0, 2), 10);
        y.minutes(10);
        y.pull(0, 3);
        DUE.is("and dry as the last one is", y.good(0), 1);
        CutBoard first = Due.withSheets(1, 1, 1);
        for (int ink = 0; ink < 10; ink++) {
            first.against(ink, 0, 1);
        }
        first.pull(0, 0);
        DUE.is("paper is never wet", first.good(0), 1);
        first.pull(0, 0);
        DUE.is("an ink told against itself", first.good(0), 0);
        CutBoard later = Due.withSheets(1, 1, 1);
        later.pull(0, 0);
        later.against(0, 1, 1);
        later.pull(0, 1);
        DUE.is("told against after it was laid", later.good(0), 0);
    }

    private static int lots(int z, int throwsDone) {
        int now = z;
        for (int k = 0; k < throwsDone; k++) {
            now = now * 1103515245 + 12345;
        }
        return (now >>> 8) % 1000;
    }

    /** "one throw for each GOOD SHEET of the pull, by numbers" */
    private static void oneThrowForEachGoodSheetByNumbers() {
        for (int last : new int[] {0, 1, 9, 18}) {
            for (int spoiled = 0; spoiled <= last; spoiled += 3) {
                CutBoard x = Due.withSheets(1, 1, 20);
                x.against(0, 0, 1);
                x.pull(101 * spoiled, 0);
                x.pull(101 * spoiled, 0);
                x.minutes(60);
                x.lots(1, 4711);
                x.lots(0, 400);
                x.pull(last, 1);
                int done = 0;
                for (int sheet = 0; sheet <= last; sheet++) {
                    done += sheet == spoiled ? 0 : 1;
                    boolean off = sheet == spoiled || lots(4711, done) < 400;
                    DUE.is("sheet " + sheet + " of " + last, x.good(sheet), off ? 0 : 1);
                }
                x.pull(-1, 1);
                x.lots(0, lots(4711, done + 1));
                x.pull(1919, 2);
                DUE.is("as many throws as good sheets, none for a proof", x.good(19), 1);
                x.lots(0, lots(4711, done + 2) + 1);
                x.pull(1919, 2);
                DUE.is("and one for this one", x.good(19), 0);
            }
        }
    }

    /** "ahead of the INK on it (a SPOILED one gets no INK)" */
    private static void aSpoiledOneGetsNoInk() {
        CutBoard x = Due.withSheets(2, 2, 2);
        x.pull(1, 0);
        x.lots(0, ALWAYS_OFF);
        x.lots(1, 1);
        x.minutes(5);
        x.pull(1, 4);
        for (int sheet = 0; sheet < 2; sheet++) {
            DUE.is("off", x.good(sheet), 0);
            DUE.is("its colour stays", x.colour(sheet, 9), 1);
            DUE.is("led to the pull before", x.led(sheet, 9, 0), 0);
            DUE.is("laid once", x.led(sheet, 9, 1), 1);
            DUE.is("wet as before", x.led(sheet, 9, 2), 60);
        }
        DUE.is("both by this pull", x.book(1, 4), 2);
        x.lots(0, 0);
        x.pull(1, 5);
        DUE.is("nor any later ink", x.colour(0, 0), 1);
        DUE.is("none is spoiled twice", x.book(2, 4), 0);
        DUE.is("no good sheet is left", x.count(2), 0);
    }

    /** "A PULL is kept in THE BOOK (at most 200)", "NONE (also no BOARD); FULL." */
    private static void bookAtMost200() {
        CutBoard x = Due.withSheets(1, 2, 2);
        for (int k = 0; k < 199; k++) {
            DUE.is("kept", k % 3 == 0 ? x.pull(0, k % 10) : k % 3 == 1 ? x.pull(-1, 0) : x.blend(0, 120), k);
        }
        DUE.is("199 are kept", x.count(3), 199);
        DUE.is("the last there is room for", x.pull(0, 9), 199);
        DUE.is("200 are kept", x.count(3), 200);
        DUE.is("a pull more", x.pull(1, 1), CutBoard.FULL);
        DUE.is("a blended one more", x.blend(1, 340), CutBoard.FULL);
        DUE.is("a proof more", x.pull(-1, 1), CutBoard.FULL);
        DUE.is("a blended proof more", x.blend(-1, 340), CutBoard.FULL);
        DUE.is("NONE is named ahead of FULL, ink", x.pull(0, 10), CutBoard.NONE);
        DUE.is("NONE is named ahead of FULL, sheets", x.pull(2, 0), CutBoard.NONE);
        DUE.is("NONE is named ahead of FULL, column", x.blend(0, 342), CutBoard.NONE);
        DUE.is("NONE is named ahead of FULL, inks alike", x.blend(0, 330), CutBoard.NONE);
        DUE.is("NONE is named ahead of FULL, blended sheets", x.blend(2, 340), CutBoard.NONE);
        DUE.is("nothing was laid", x.colour(1, 0), 0);
        DUE.is("nor on the other", x.colour(0, 0), 10);
        DUE.is("200 are kept still", x.count(3), 200);
        DUE.is("the first", x.book(0, 2), 0);
        DUE.is("the last", x.book(199, 0), 9);
        DUE.is("no 200", x.book(200, 0), CutBoard.NONE);
        CutBoard blended = Due.withBoard(1, 1);
        for (int k = 0; k < 200; k++) {
            blended.pull(-1, 0);
        }
        DUE.is("the book is full of proofs", blended.blend(-1, 120), CutBoard.FULL);
    }

    /** "A PROOF is a PULL on no SHEET: it is kept, and lays nothing (0 CELLS)." */
    private static void aProofIsKeptAndLaysNothing() {
        CutBoard x = Due.withSheets(2, 2, 2);
        x.lots(0, ALWAYS_OFF);
        x.lots(1, 1);
        x.minutes(7);
        DUE.is("kept", x.pull(-1, 9), 0);
        DUE.is("kept, blended", x.blend(-1, 981), 1);
        int[][] due = {{9, 7, -1, 0, 0}, {10, 7, -1, 0, 0}};
        for (int pull = 0; pull < 2; pull++) {
            for (int what = 0; what < 5; what++) {
                DUE.is("proof " + pull + " what " + what, x.book(pull, what), due[pull][what]);
            }
        }
        DUE.is("lays nothing", x.colour(0, 0), 0);
        DUE.is("leads to nothing", x.led(0, 0, 0), -1);
        DUE.is("spoils nothing", x.count(2), 2);
        DUE.is("without any sheet", Due.withBoard(1, 1).pull(-1, 0), 0);
        DUE.is("blended, without any sheet", Due.withBoard(1, 1).blend(-1, 120), 0);
        DUE.is("-2 is no proof", x.pull(-2, 0), CutBoard.NONE);
    }

    /** "inks: 100 times p, 10 times q, and c (a COLUMN; p is not q). NONE" */
    private static void blendTakesTwoUnlikeInksAndAColumn() {
        for (int columns = 1; columns <= 8; columns++) {
            int there = columns;
            for (int told : new int[] {-1, 0}) {
                EDGES.sweep("blend on " + there + " columns", sheets(1, there, 1), (x, v) -> x.blend(told, v), -250, 1400,
                    v -> v >= 0 && v <= 999 && v / 100 != v / 10 % 10 && v % 10 < there ? 0 : CutBoard.NONE);
            }
        }
    }

    private static void blendTakesSheetsThatAreReady() {
        for (int there : new int[] {1, 2, 20}) {
            EDGES.sweep("blend of " + there, sheets(2, 2, there), (x, v) -> x.blend(v, 121), -350, 2600,
                v -> v == -1 || areSheets(v, there) ? 0 : CutBoard.NONE);
        }
        EDGES.none("blend without a board", CutBoard::new, (x, v) -> x.blend(-1, v), 10, 120, 121, 987);
    }

    /** "COLUMNS 0 .. c - 1 get p, those behind c get q, and COLUMN c gets MIXED" */
    private static void blendAtTheFirstAndTheLastColumn() {
        for (int columns = 1; columns <= 8; columns++) {
            for (int c = 0; c < columns; c++) {
                CutBoard x = Due.withSheets(2, columns, 1);
                x.mixed(2, 6, 8);
                DUE.is("blended", x.blend(0, 620 + c), 0);
                for (int column = 0; column < columns; column++) {
                    int due = column < c ? 7 : column > c ? 3 : 9;
                    DUE.is("c " + c + " column " + column, x.colour(0, column), due);
                    DUE.is("c " + c + " column " + column + " of the last row", x.colour(0, 8 + column), due);
                }
                DUE.is("all cells", x.book(0, 3), 2 * columns);
            }
        }
    }

    private static void blendMixedEitherWayTheSame() {
        CutBoard x = Due.withSheets(1, 3, 4);
        x.blend(0, 371);
        DUE.is("0 at first", x.colour(0, 1), 1);
        x.mixed(7, 3, 5);
        x.blend(101, 371);
        DUE.is("told the other way", x.colour(1, 1), 6);
        x.blend(202, 731);
        DUE.is("and its own way", x.colour(2, 1), 6);
        x.blend(303, 381);
        DUE.is("not of another pair", x.colour(3, 1), 1);
    }

    private static boolean isCell(int v, int[] size) {
        return v >= 0 && v / 8 < size[0] && v % 8 < size[1];
    }

    /** "COLOUR of a CELL of a SHEET. NONE." */
    private static void colourTakesSheetsAndCells() {
        for (int[] size : SIZES) {
            EDGES.sweep("colour, cell", sheets(size[0], size[1], 2), (x, v) -> x.colour(1, v), -200, 700,
                v -> isCell(v, size) ? 0 : CutBoard.NONE);
        }
        for (int there : new int[] {1, 2, 19, 20}) {
            EDGES.range("colour, sheet", sheets(2, 2, there), (x, v) -> x.colour(v, 9), 0, there - 1);
        }
        EDGES.none("colour without a sheet", () -> Due.withBoard(2, 2), (x, v) -> x.colour(v, 0), -1, 0, 1, 19);
    }

    private static CutBoard pulled(int rows, int columns, int sheets) {
        CutBoard x = Due.withSheets(rows, columns, sheets);
        x.pull(sheets - 1, 3);
        return x;
    }

    /** "Of a CELL of a SHEET: 0 the PULL that laid there last, 1 how many, 2 the MINUTE up to which it is WET. NONE" */
    private static void ledTakesSheetsCellsAndWhat0To2() {
        int[] due = {0, 1, 60};
        for (int[] size : SIZES) {
            for (int what = 0; what <= 2; what++) {
                int asked = what;
                EDGES.sweep("led, cell", () -> pulled(size[0], size[1], 2), (x, v) -> x.led(1, v, asked), -200, 700,
                    v -> isCell(v, size) ? due[asked] : CutBoard.NONE);
            }
        }
        for (int there : new int[] {1, 2, 20}) {
            for (int what = 0; what <= 2; what++) {
                int asked = what;
                EDGES.range("led, sheet", () -> pulled(2, 2, there), (x, v) -> x.led(v, 9, asked), 0, there - 1);
            }
        }
        EDGES.range("led, what", () -> pulled(2, 2, 2), (x, v) -> x.led(1, 9, v), 0, 2);
    }

    /** "(-1: none)", "(0: never laid)", "how many laid there" */
    private static void ledOfNoneAndOfMany() {
        CutBoard x = Due.withSheets(1, 2, 1);
        x.cut(Due.area(0, 0, 1, 1));
        for (int k = 0; k < 200; k++) {
            x.pull(0, k % 10);
        }
        DUE.is("the last of 200", x.led(0, 0, 0), 199);
        DUE.is("200 laid there", x.led(0, 0, 1), 200);
        DUE.is("none laid on the cut one", x.led(0, 1, 0), -1);
        DUE.is("0 laid on the cut one", x.led(0, 1, 1), 0);
        DUE.is("it was never wet", x.led(0, 1, 2), 0);
        CutBoard quick = Due.withSheets(1, 1, 1);
        quick.drying(0, 0);
        quick.pull(0, 0);
        DUE.is("laid, but wet up to minute 0", quick.led(0, 0, 2), 0);
        DUE.is("laid by pull 0", quick.led(0, 0, 0), 0);
        CutBoard slow = Due.withSheets(1, 1, 1);
        slow.drying(0, 999);
        slow.minutes(1000);
        slow.pull(0, 0);
        slow.drying(0, 1);
        DUE.is("as the drying was at the pull", slow.led(0, 0, 2), 1999);
        slow.minutes(1000);
        DUE.is("it stays when it is dry", slow.led(0, 0, 2), 1999);
    }

    /** "1 if a SHEET is GOOD, 0 if it is SPOILED. NONE." */
    private static void goodTakesSheetsThatAreReady() {
        for (int there = 1; there <= 20; there++) {
            EDGES.range("good, of " + there, sheets(1, 1, there), CutBoard::good, 0, there - 1);
        }
        EDGES.none("good, of none", () -> Due.withBoard(1, 1), CutBoard::good, -1, 0, 1, 19, 20);
    }

    private static CutBoard withProofs(int pulls) {
        CutBoard x = Due.withBoard(1, 1);
        for (int k = 0; k < pulls; k++) {
            x.pull(-1, 0);
        }
        return x;
    }

    /** "Of a PULL: 0 INK .. 4 SHEETS SPOILED by it. NONE" */
    private static void bookTakesPullsThatAreKeptAndWhat0To4() {
        for (int kept : new int[] {1, 2, 199, 200}) {
            EDGES.range("book, of " + kept, () -> withProofs(kept), (x, v) -> x.book(v, 0), 0, kept - 1);
        }
        EDGES.none("book, of none", () -> withProofs(0), (x, v) -> x.book(v, 0), -1, 0, 1, 199, 200);
        EDGES.range("book, what", () -> pulled(1, 1, 1), (x, v) -> x.book(0, v), 0, 4);
    }

    /** "0 INK (10 of a BLENDED one), 1 MINUTE, 2 SHEETS as told (-1: a PROOF), 3 CELLS laid, 4 SHEETS SPOILED" */
    private static void bookAsTold() {
        CutBoard x = Due.withSheets(8, 8, 20);
        for (int k = 0; k < 99; k++) {
            x.minutes(1000);
        }
        x.minutes(999);
        x.lots(0, ALWAYS_OFF);
        x.lots(1, 1);
        x.pull(1919, 9);
        x.blend(18, 987);
        x.pull(-1, 0);
        x.pull(19, 0);
        int[][] due = {{9, 99999, 1919, 64, 1}, {10, 99999, 18, 64, 19}, {0, 99999, -1, 0, 0}, {0, 99999, 19, 64, 0}};
        for (int pull = 0; pull < due.length; pull++) {
            for (int what = 0; what < 5; what++) {
                DUE.is("pull " + pull + " what " + what, x.book(pull, what), due[pull][what]);
            }
        }
        x.cut(Due.area(0, 7, 0, 7));
        DUE.is("what is kept stays", x.book(0, 3), 64);
    }

    /** "FREE AT ... NONE." */
    private static void freeTakesSheetsThatAreReadyAndInks() {
        for (int there : new int[] {1, 2, 20}) {
            EDGES.sweep("free of " + there, sheets(2, 2, there), (x, v) -> x.free(v, 0), -350, 2600,
                v -> areSheets(v, there) ? 0 : CutBoard.NONE);
        }
        EDGES.none("free of no sheet", () -> Due.withBoard(1, 1), (x, v) -> x.free(v, 0), -1, 0, 1, 100, 101);
        EDGES.range("free, ink", sheets(1, 1, 1), (x, v) -> x.free(0, v), 0, 9);
    }

    /** "FREE AT (at least MINUTE)" */
    private static void freeAtLeastMinute() {
        for (int dries : new int[] {0, 1, 60, 999}) {
            CutBoard x = Due.withSheets(1, 1, 2);
            x.minutes(100);
            x.drying(4, dries);
            x.against(4, 5, 1);
            x.pull(0, 4);
            DUE.is("at the pull's minute", x.free(0, 5), 100 + dries);
            DUE.is("told against the one way alone", x.free(0, 4), 100);
            DUE.is("the other sheet is dry", x.free(101, 5), 100);
            DUE.is("both", x.free(1, 5), 100 + dries);
            if (dries > 1) {
                x.minutes(dries - 1);
                DUE.is("a minute ahead of it", x.free(0, 5), 100 + dries);
                x.minutes(1);
                DUE.is("at it", x.free(0, 5), 100 + dries);
            }
            x.minutes(1);
            DUE.is("behind it", x.free(0, 5), Math.max(101, x.count(4)));
        }
        CutBoard none = Due.withSheets(1, 1, 1);
        for (int ink = 0; ink < 10; ink++) {
            none.against(ink, ink, 1);
            none.against(0, ink, 1);
        }
        DUE.is("nothing was laid", none.free(0, 0), 0);
        none.minutes(3);
        DUE.is("nothing was laid, later", none.free(0, 0), 3);
    }

    private static void freeBeyondTheLastMinute() {
        CutBoard x = Due.withSheets(1, 1, 1);
        for (int k = 0; k < 99; k++) {
            x.minutes(1000);
        }
        x.minutes(999);
        x.drying(0, 999);
        x.against(0, 1, 1);
        x.pull(0, 0);
        DUE.is("wet beyond the last minute", x.led(0, 0, 2), 100998);
        DUE.is("free beyond the last minute", x.free(0, 1), 100998);
        DUE.is("free for another ink", x.free(0, 2), 99999);
    }

    /** "lays on no CELL that is WET by an INK that is told against it" */
    private static void freeLooksWhereAPullWouldLay() {
        for (int cell : new int[] {0, 7, 27, 56, 63}) {
            CutBoard x = Due.withSheets(8, 8, 1);
            x.against(2, 2, 1);
            x.saw(0, Due.area(cell / 8, cell / 8, cell % 8, cell % 8));
            x.piece(0, 0);
            x.pull(0, 2);
            DUE.is("one wet cell, and it is in", x.free(0, 2), 60);
            x.piece(1, 0);
            x.piece(0, 1);
            DUE.is("it is out", x.free(0, 2), 0);
            x.piece(1, 1);
            x.cut(Due.area(cell / 8, cell / 8, cell % 8, cell % 8));
            DUE.is("it is cut", x.free(0, 2), 0);
        }
        CutBoard x = Due.withSheets(1, 1, 2);
        x.against(2, 2, 1);
        x.pull(1, 2);
        x.pull(0, 2);
        DUE.is("a spoiled one gets no ink", x.free(0, 2), 0);
        DUE.is("a good one does", x.free(101, 2), 60);
    }
}
