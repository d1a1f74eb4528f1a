import java.util.function.Supplier;

/** The boundary cases that the document names for promises 1, 2 and 9 to 14, a test for each sentence. */
public final class BoardEdgesTest {
    private static final Due DUE = new Due();
    private static final Edges EDGES = new Edges(DUE);
    private static final int[][] SIZES = {{1, 1}, {1, 8}, {8, 1}, {8, 8}, {3, 5}, {7, 2}};

    public static void main(String[] args) {
        noBoardYetMinute0();
        rowsAndColumns1To8();
        toldOnce();
        standingAtFirstAndOnePiece();
        cutCellsNeverStandAgain();
        cutTakesRectanglesOfTheBoard();
        cutCountsThoseThatStood();
        cutTellsStateForOneStandingCellThatIsOut();
        sawTakesRectanglesOfTheBoard();
        sawTakesPiecesThatAreThere();
        notIfNoneOrAllWould();
        sawTakesCutOnesToo();
        newPieceIsInAsItsPieceIs();
        pieces0To7();
        pieceTakesPiecesThatAreThere();
        pieceIs0Or1();
        putInAgainAsItIs();
        cellTakesCellsOfTheBoard();
        cellTakesWhat0To1();
        islandsTakesWhat0To2();
        islandsOfNothingAndOfAll();
        islandsJoinFourNeighboursInOnePiece();
        joinedTakesCellsOfTheBoard();
        joinedOnlyInOneIsland();
        DUE.end();
    }

    private static Supplier<CutBoard> board(int rows, int columns) {
        return () -> Due.withBoard(rows, columns);
    }

    /** "No board yet, MINUTE 0." */
    private static void noBoardYetMinute0() {
        CutBoard x = new CutBoard();
        for (int what = 0; what <= 6; what++) {
            DUE.is("new: count " + what, x.count(what), 0);
        }
        DUE.is("new: minute 0, so the first minute is 1", x.minutes(1), 1);
        EDGES.none("new: no cell", CutBoard::new, (y, v) -> y.cell(v, 0), 0, 1, 8, 63);
        EDGES.none("new: no piece of a cell", CutBoard::new, (y, v) -> y.cell(v, 1), 0, 1, 8, 63);
        EDGES.none("new: nothing to cut", CutBoard::new, CutBoard::cut, 0, 1, 9, 64, 65, 73, 4095);
        EDGES.none("new: nothing to saw", CutBoard::new, (y, v) -> y.saw(0, v), 0, 1, 9, 64, 65, 73);
        EDGES.none("new: no piece", CutBoard::new, (y, v) -> y.piece(v, 1), 0, 1, 7);
        EDGES.none("new: nothing to be joined", CutBoard::new, (y, v) -> y.joined(v, v), 0, 1, 8, 63);
        EDGES.none("new: no sheets without a board", CutBoard::new, CutBoard::sheets, 1, 2, 20);
        EDGES.none("new: no pull without a board", CutBoard::new, (y, v) -> y.pull(v, 0), -1, 0, 1, 101);
        EDGES.none("new: no blend without a board", CutBoard::new, (y, v) -> y.blend(v, 120), -1, 0, 1, 101);
        EDGES.none("new: nothing is free", CutBoard::new, (y, v) -> y.free(v, 0), -1, 0, 1, 101);
        EDGES.none("new: no colour", CutBoard::new, (y, v) -> y.colour(0, v), 0, 1, 8);
        EDGES.none("new: no sheet", CutBoard::new, CutBoard::good, 0, 1, 19);
        EDGES.none("new: no book", CutBoard::new, (y, v) -> y.book(v, 0), 0, 1, 199);
        for (int what = 0; what <= 2; what++) {
            DUE.is("new: islands " + what, new CutBoard().islands(what), 0);
        }
    }

    /** "THE BOARD has ROWS 1 .. 8 and COLUMNS 1 .. 8" */
    private static void rowsAndColumns1To8() {
        for (int other = 1; other <= 8; other++) {
            int fixed = other;
            EDGES.range("rows with columns " + fixed, CutBoard::new, (x, v) -> x.board(v, fixed), 1, 8);
            EDGES.range("columns with rows " + fixed, CutBoard::new, (x, v) -> x.board(fixed, v), 1, 8);
        }
        DUE.is("neither is as said", new CutBoard().board(0, 9), CutBoard.NONE);
    }

    /** "(told once)", "NONE; STATE: it was." */
    private static void toldOnce() {
        for (int[] size : SIZES) {
            CutBoard x = Due.withBoard(size[0], size[1]);
            DUE.is("the same again", x.board(size[0], size[1]), CutBoard.STATE);
            DUE.is("the least", x.board(1, 1), CutBoard.STATE);
            DUE.is("the greatest", x.board(8, 8), CutBoard.STATE);
            DUE.is("NONE is named ahead of STATE, rows 0", x.board(0, 1), CutBoard.NONE);
            DUE.is("NONE is named ahead of STATE, rows 9", x.board(9, 8), CutBoard.NONE);
            DUE.is("NONE is named ahead of STATE, columns 0", x.board(1, 0), CutBoard.NONE);
            DUE.is("NONE is named ahead of STATE, columns 9", x.board(8, 9), CutBoard.NONE);
            DUE.is("it is as it was told first", x.count(5), size[0] * size[1]);
            DUE.is("its last cell", x.cell(Due.at(size[0] - 1, size[1] - 1), 0), 1);
        }
        CutBoard refused = new CutBoard();
        refused.board(9, 9);
        DUE.is("a refused one was not told", refused.board(2, 2), 1);
    }

    /** "each a CELL: standing (at first) or cut", "the BOARD is ONE PIECE, 0, at first" */
    private static void standingAtFirstAndOnePiece() {
        for (int rows = 1; rows <= 8; rows++) {
            for (int columns = 1; columns <= 8; columns++) {
                CutBoard x = Due.withBoard(rows, columns);
                DUE.is("one piece", x.count(0), 1);
                DUE.is("all stand", x.count(5), rows * columns);
                DUE.is("none was cut", x.count(6), 0);
                DUE.is("all are in", x.islands(2), rows * columns);
                for (int cell = 0; cell < 64; cell++) {
                    boolean there = cell / 8 < rows && cell % 8 < columns;
                    DUE.is("it stands at first", x.cell(cell, 0), there ? 1 : CutBoard.NONE);
                    DUE.is("it is of piece 0 at first", x.cell(cell, 1), there ? 0 : CutBoard.NONE);
                }
            }
        }
    }

    /** "Cut CELLS never stand again" */
    private static void cutCellsNeverStandAgain() {
        CutBoard x = Due.withSheets(3, 3, 2);
        x.cut(Due.area(1, 1, 1, 2));
        x.cut(Due.area(1, 1, 1, 2));
        x.saw(0, Due.area(1, 1, 0, 1));
        x.piece(1, 0);
        x.piece(1, 1);
        x.piece(0, 0);
        x.piece(0, 1);
        x.minutes(1000);
        x.pull(1, 3);
        x.board(3, 3);
        x.sheets(1);
        x.wanted(3, 3);
        DUE.is("cut, and of a new piece", x.cell(Due.at(1, 1), 0), 0);
        DUE.is("cut, and of the old piece", x.cell(Due.at(1, 2), 0), 0);
        DUE.is("no ink from a cut one", x.colour(0, Due.at(1, 1)), 0);
        DUE.is("cut for good", x.count(6), 2);
        DUE.is("cut once", x.cut(Due.area(0, 2, 0, 2)), 7);
    }

    private static boolean isArea(int cells, int rows, int columns) {
        int firstRow = cells / 512;
        int lastRow = cells / 64 % 8;
        int firstColumn = cells / 8 % 8;
        int lastColumn = cells % 8;
        return cells >= 0 && firstRow <= lastRow && lastRow < rows && firstColumn <= lastColumn && lastColumn < columns;
    }

    private static int cellsOf(int cells) {
        return (cells / 64 % 8 - cells / 512 + 1) * (cells % 8 - cells / 8 % 8 + 1);
    }

    /** "cells: 512 times the first ROW, 64 times the last ROW, 8 times the first COLUMN, and the last COLUMN. NONE" */
    private static void cutTakesRectanglesOfTheBoard() {
        for (int[] size : SIZES) {
            EDGES.sweep("cut on " + size[0] + " by " + size[1], board(size[0], size[1]), CutBoard::cut, -1200, 5300,
                v -> isArea(v, size[0], size[1]) ? cellsOf(v) : CutBoard.NONE);
        }
        CutBoard x = Due.withBoard(4, 4);
        int[] beside = {Due.area(0, 4, 0, 0), Due.area(4, 4, 0, 0), Due.area(0, 0, 0, 4), Due.area(0, 0, 4, 4),
            Due.area(2, 1, 0, 0), Due.area(0, 0, 2, 1), Due.area(-1, 0, 0, 0), Due.area(8, 3, 0, 0)};
        for (int cells : beside) {
            DUE.is("no rectangle of it", x.cut(cells), CutBoard.NONE);
            DUE.is("and nothing is cut", x.count(5), 16);
        }
        EDGES.none("ahead of board()", CutBoard::new, CutBoard::cut, 0, 9, 65, 73, 448 + 7);
    }

    /** "how many were that stood" */
    private static void cutCountsThoseThatStood() {
        CutBoard x = Due.withBoard(8, 8);
        DUE.is("one", x.cut(Due.area(7, 7, 7, 7)), 1);
        DUE.is("none, the second time", x.cut(Due.area(7, 7, 7, 7)), 0);
        DUE.is("all but one", x.cut(Due.area(0, 7, 0, 7)), 63);
        DUE.is("none of 64", x.cut(Due.area(0, 7, 0, 7)), 0);
        DUE.is("none stands", x.count(5), 0);
        DUE.is("all were cut", x.count(6), 64);
        DUE.is("64 at once", Due.withBoard(8, 8).cut(Due.area(0, 7, 0, 7)), 64);
    }

    /** "STATE: a standing one of them is of a PIECE that is OUT" */
    private static void cutTellsStateForOneStandingCellThatIsOut() {
        for (int cell = 0; cell < 16; cell++) {
            int row = cell / 4;
            int column = cell % 4;
            for (int cells = 0; cells < 4096; cells++) {
                if (isArea(cells, 4, 4)) {
                    boolean covers = row >= cells / 512 && row <= cells / 64 % 8
                        && column >= cells / 8 % 8 && column <= cells % 8;
                    CutBoard x = withPieceOut(row, column);
                    DUE.is("cut " + cells, x.cut(cells), covers ? CutBoard.STATE : cellsOf(cells));
                    DUE.is("then stand", x.count(5), covers ? 16 : 16 - cellsOf(cells));
                }
            }
        }
        CutBoard x = withPieceOut(1, 1);
        DUE.is("NONE is named ahead of STATE", x.cut(Due.area(0, 4, 0, 3)), CutBoard.NONE);
        x.piece(1, 1);
        DUE.is("when it is in", x.cut(Due.area(1, 1, 1, 1)), 1);
        x.piece(1, 0);
        DUE.is("a cut one that is out is no matter", x.cut(Due.area(1, 1, 1, 1)), 0);
        DUE.is("nor beside others", x.cut(Due.area(0, 3, 0, 3)), 15);
        DUE.is("nor when none stands", x.cut(Due.area(0, 3, 0, 3)), 0);
        CutBoard whole = Due.withBoard(1, 1);
        whole.piece(0, 0);
        DUE.is("the whole board is out", whole.cut(0), CutBoard.STATE);
    }

    private static CutBoard withPieceOut(int row, int column) {
        CutBoard x = Due.withBoard(4, 4);
        x.saw(0, Due.area(row, row, column, column));
        x.piece(1, 0);
        return x;
    }

    /** "CELLS of a rectangle that are of a PIECE become a new one: its number. NONE" */
    private static void sawTakesRectanglesOfTheBoard() {
        for (int[] size : SIZES) {
            int all = size[0] * size[1];
            EDGES.sweep("saw on " + size[0] + " by " + size[1], board(size[0], size[1]), (x, v) -> x.saw(0, v), -1200, 5300,
                v -> !isArea(v, size[0], size[1]) ? CutBoard.NONE : cellsOf(v) == all ? CutBoard.NOT : 1);
        }
    }

    /** A board of 2 by 8, with so many pieces; piece 0 keeps two cells at least, the others have two. */
    private static CutBoard withPieces(int pieces) {
        CutBoard x = Due.withBoard(2, 8);
        for (int column = 0; column < pieces - 1; column++) {
            x.saw(0, Due.area(0, 1, column, column));
        }
        return x;
    }

    private static void sawTakesPiecesThatAreThere() {
        for (int pieces = 1; pieces <= 7; pieces++) {
            int there = pieces;
            EDGES.range("saw, of pieces " + there, () -> withPieces(there), (x, v) -> x.saw(v, Due.area(0, 0, 0, 7)),
                0, there - 1);
        }
        EDGES.none("saw, of pieces 8", () -> withPieces(8), (x, v) -> x.saw(v, Due.area(0, 0, 0, 7)), -1, 8, 9);
    }

    /** "NOT if none or all would" */
    private static void notIfNoneOrAllWould() {
        CutBoard x = Due.withBoard(3, 3);
        DUE.is("all", x.saw(0, Due.area(0, 2, 0, 2)), CutBoard.NOT);
        DUE.is("all but one", x.saw(0, Due.area(0, 2, 0, 1)), 1);
        DUE.is("none", x.saw(0, Due.area(0, 2, 0, 1)), CutBoard.NOT);
        DUE.is("none of the other", x.saw(1, Due.area(0, 2, 2, 2)), CutBoard.NOT);
        DUE.is("all, just", x.saw(0, Due.area(0, 2, 2, 2)), CutBoard.NOT);
        DUE.is("all, and others", x.saw(0, Due.area(0, 2, 1, 2)), CutBoard.NOT);
        DUE.is("one of three", x.saw(0, Due.area(2, 2, 0, 2)), 2);
        DUE.is("one of one", x.saw(2, Due.area(2, 2, 2, 2)), CutBoard.NOT);
        DUE.is("none of one", x.saw(2, Due.area(1, 1, 2, 2)), CutBoard.NOT);
        DUE.is("NONE is named ahead of NOT, by the piece", x.saw(3, Due.area(0, 2, 0, 2)), CutBoard.NONE);
        DUE.is("NONE is named ahead of NOT, by the cells", x.saw(0, Due.area(0, 3, 0, 2)), CutBoard.NONE);
        DUE.is("three pieces", x.count(0), 3);
        DUE.is("a board of one cell", Due.withBoard(1, 1).saw(0, 0), CutBoard.NOT);
    }

    /** "(told as a rectangle; cut ones, too)" */
    private static void sawTakesCutOnesToo() {
        CutBoard x = Due.withBoard(1, 4);
        x.cut(Due.area(0, 0, 0, 1));
        DUE.is("all that stand, but a cut one is left", x.saw(0, Due.area(0, 0, 1, 3)), 1);
        DUE.is("a cut one is of it", x.cell(1, 1), 1);
        DUE.is("a cut one alone is left", x.cell(0, 1), 0);
        DUE.is("it is all of its piece", x.saw(0, 0), CutBoard.NOT);
        x.cut(Due.area(0, 0, 0, 3));
        DUE.is("when none stands", x.saw(1, Due.area(0, 0, 0, 1)), 2);
        DUE.is("three pieces without a standing cell", x.count(0), 3);
    }

    /** "becomes a new PIECE, IN as p is" */
    private static void newPieceIsInAsItsPieceIs() {
        CutBoard x = Due.withBoard(1, 8);
        x.saw(0, Due.area(0, 0, 0, 3));
        DUE.is("in", x.islands(2), 8);
        x.piece(1, 0);
        x.saw(1, Due.area(0, 0, 0, 1));
        DUE.is("out as piece 1 is", x.islands(2), 4);
        x.saw(0, Due.area(0, 0, 4, 5));
        DUE.is("in as piece 0 is", x.islands(2), 4);
        DUE.is("piece 2 was out", x.piece(2, 1), 0);
        DUE.is("piece 1 stays out", x.islands(2), 6);
        DUE.is("piece 3 was in", x.piece(3, 0), 1);
        x.saw(2, Due.area(0, 0, 0, 0));
        DUE.is("in as piece 2 is now", x.islands(2), 4);
    }

    /** "PIECES 0 .. 7", "NONE; NOT; FULL." */
    private static void pieces0To7() {
        CutBoard x = withPieces(7);
        DUE.is("the last there is room for", x.saw(0, Due.area(0, 1, 6, 6)), 7);
        for (int piece = 0; piece < 8; piece++) {
            DUE.is("one more", x.saw(piece, Due.area(0, 0, 0, 7)), CutBoard.FULL);
            DUE.is("NOT is named ahead of FULL", x.saw(piece, Due.area(0, 1, 0, 7)), CutBoard.NOT);
            DUE.is("NONE is named ahead of FULL", x.saw(piece, Due.area(0, 2, 0, 7)), CutBoard.NONE);
        }
        DUE.is("no piece 8", x.saw(8, Due.area(0, 0, 0, 7)), CutBoard.NONE);
        DUE.is("eight there are", x.count(0), 8);
        for (int column = 0; column < 8; column++) {
            int due = column == 7 ? 0 : column + 1;
            DUE.is("the upper cell stays", x.cell(Due.at(0, column), 1), due);
            DUE.is("the lower cell stays", x.cell(Due.at(1, column), 1), due);
        }
        DUE.is("no piece 8 to put in", x.piece(8, 1), CutBoard.NONE);
    }

    /** "A PIECE is IN (1) or OUT (0): what it was. NONE." */
    private static void pieceTakesPiecesThatAreThere() {
        for (int pieces = 1; pieces <= 8; pieces++) {
            int there = pieces;
            EDGES.range("piece, of " + there, () -> withPieces(there), (x, v) -> x.piece(v, 0), 0, there - 1);
        }
    }

    private static void pieceIs0Or1() {
        for (int pieces = 1; pieces <= 8; pieces++) {
            int last = pieces - 1;
            EDGES.range("in or out", () -> withPieces(last + 1), (x, v) -> x.piece(last, v), 0, 1);
        }
        CutBoard x = withPieces(2);
        DUE.is("it was in at first", x.piece(1, 1), 1);
        DUE.is("refused", x.piece(1, 2), CutBoard.NONE);
        DUE.is("refused, below", x.piece(1, -1), CutBoard.NONE);
        DUE.is("it is in as it was", x.piece(1, 0), 1);
        DUE.is("refused again", x.piece(1, 2), CutBoard.NONE);
        DUE.is("it is out as it was", x.piece(1, 0), 0);
    }

    /** "a PIECE that was taken out is put in again as it is", "A PIECE may be OUT (not printed) or IN" */
    private static void putInAgainAsItIs() {
        CutBoard x = Due.withSheets(1, 4, 3);
        x.saw(0, Due.area(0, 0, 2, 3));
        x.cut(Due.area(0, 0, 3, 3));
        x.piece(1, 0);
        x.pull(0, 0);
        DUE.is("out: not printed", x.colour(0, 2), 0);
        DUE.is("out: it stands all the same", x.cell(2, 0), 1);
        DUE.is("out: it is counted", x.count(5), 3);
        x.piece(1, 1);
        x.pull(101, 0);
        DUE.is("in again: printed", x.colour(1, 2), 1);
        DUE.is("in again: what was cut is cut", x.colour(1, 3), 0);
        x.piece(0, 0);
        x.piece(1, 0);
        DUE.is("all are out: no island", x.islands(0), 0);
        DUE.is("all are out: a pull lays nothing", x.pull(202, 0), 2);
        DUE.is("all are out: 0 cells", x.book(2, 3), 0);
        DUE.is("all are out: paper", x.colour(2, 0), 0);
    }

    /** "Of a CELL (8 times the ROW, and the COLUMN) ... NONE." */
    private static void cellTakesCellsOfTheBoard() {
        for (int[] size : SIZES) {
            for (int what = 0; what <= 1; what++) {
                int asked = what;
                EDGES.sweep("cell of " + size[0] + " by " + size[1], board(size[0], size[1]), (x, v) -> x.cell(v, asked),
                    -200, 700, v -> isCell(v, size) ? 1 - asked : CutBoard.NONE);
            }
        }
    }

    private static boolean isCell(int v, int[] size) {
        return v >= 0 && v / 8 < size[0] && v % 8 < size[1];
    }

    private static void cellTakesWhat0To1() {
        for (int[] size : SIZES) {
            int last = Due.at(size[0] - 1, size[1] - 1);
            EDGES.range("what of a cell", board(size[0], size[1]), (x, v) -> x.cell(last, v), 0, 1);
        }
    }

    private static void islandsTakesWhat0To2() {
        EDGES.range("what of islands", board(8, 8), CutBoard::islands, 0, 2);
        EDGES.range("what of islands, no board", CutBoard::new, CutBoard::islands, 0, 2);
    }

    private static void expectIslands(String name, CutBoard x, int many, int greatest, int all) {
        DUE.is(name + ", how many", x.islands(0), many);
        DUE.is(name + ", the greatest", x.islands(1), greatest);
        DUE.is(name + ", all", x.islands(2), all);
    }

    /** "how many groups; the greatest", "all standing CELLS that are IN" */
    private static void islandsOfNothingAndOfAll() {
        for (int[] size : SIZES) {
            int all = size[0] * size[1];
            CutBoard x = Due.withBoard(size[0], size[1]);
            expectIslands("all stand", x, 1, all, all);
            x.piece(0, 0);
            expectIslands("all are out", x, 0, 0, 0);
            x.piece(0, 1);
            expectIslands("all are in again", x, 1, all, all);
            x.cut(Due.area(0, size[0] - 1, 0, size[1] - 1));
            expectIslands("all are cut", x, 0, 0, 0);
        }
    }

    /** "joined side by side (four neighbours, in one PIECE)" */
    private static void islandsJoinFourNeighboursInOnePiece() {
        for (int a = 0; a < 64; a++) {
            CutBoard x = onlyStanding(a, a);
            expectIslands("one cell " + a, x, 1, 1, 1);
            for (int b = a + 1; b < 64; b++) {
                CutBoard two = onlyStanding(a, b);
                boolean beside = b == a + 8 || b == a + 1 && b % 8 > 0;
                expectIslands("two cells " + a + " " + b, two, beside ? 1 : 2, beside ? 2 : 1, 2);
                DUE.is("two cells joined " + a + " " + b, two.joined(a, b), beside ? 1 : 0);
            }
        }
        CutBoard x = Due.withBoard(8, 8);
        for (int row = 0; row < 7; row++) {
            x.saw(0, Due.area(row, row, 0, 7));
        }
        expectIslands("eight pieces side by side", x, 8, 8, 64);
        CutBoard apart = Due.withBoard(1, 3);
        apart.saw(0, Due.area(0, 0, 1, 1));
        expectIslands("one piece on both sides of another", apart, 3, 1, 3);
        DUE.is("of one piece, but not side by side", apart.joined(0, 2), 0);
    }

    /** A board of 8 by 8 on which all is cut but these two. */
    private static CutBoard onlyStanding(int a, int b) {
        CutBoard x = Due.withBoard(8, 8);
        for (int cell = 0; cell < 64; cell++) {
            if (cell != a && cell != b) {
                x.cut(Due.area(cell / 8, cell / 8, cell % 8, cell % 8));
            }
        }
        return x;
    }

    /** "1 if two CELLS are in one island, else 0. NONE." */
    private static void joinedTakesCellsOfTheBoard() {
        for (int[] size : SIZES) {
            EDGES.sweep("joined a", board(size[0], size[1]), (x, v) -> x.joined(v, 0), -200, 700,
                v -> isCell(v, size) ? 1 : CutBoard.NONE);
            EDGES.sweep("joined b", board(size[0], size[1]), (x, v) -> x.joined(0, v), -200, 700,
                v -> isCell(v, size) ? 1 : CutBoard.NONE);
        }
    }

    private static void joinedOnlyInOneIsland() {
        CutBoard x = Due.withBoard(3, 3);
        x.cut(Due.area(1, 1, 0, 2));
        DUE.is("a cell and itself", x.joined(0, 0), 1);
        DUE.is("a cut cell and itself", x.joined(8, 8), 0);
        DUE.is("two cut cells", x.joined(8, 9), 0);
        DUE.is("a cut cell and a standing one", x.joined(8, 0), 0);
        DUE.is("a standing cell and a cut one", x.joined(0, 8), 0);
        DUE.is("beyond the cut ones", x.joined(0, 16), 0);
        DUE.is("the same row", x.joined(0, 2), 1);
        x.saw(0, Due.area(0, 0, 2, 2));
        DUE.is("another piece beside it", x.joined(1, 2), 0);
        x.piece(1, 0);
        DUE.is("one that is out and itself", x.joined(2, 2), 0);
        DUE.is("one that is out and one that is in", x.joined(2, 1), 0);
        x.piece(0, 0);
        DUE.is("two that are out", x.joined(0, 1), 0);
    }
}
