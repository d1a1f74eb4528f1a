/** Promises 1, 2 and 9 to 14: the board, its pieces and its islands. */
public final class BoardTest {
    private static final Due DUE = new Due();
    private static final int[] NO_CELLS = {-1, -8, 64, 100, Integer.MIN_VALUE, Integer.MAX_VALUE};

    public static void main(String[] args) {
        promise1();
        promise2();
        promise9();
        promise10();
        promise10Full();
        promise11();
        promise12();
        promise13();
        promise13Diagonal();
        promise14();
        DUE.end();
    }

    private static void promise1() {
        CutBoard x = new CutBoard();
        for (int what = 0; what <= 6; what++) {
            DUE.is("1 count " + what, x.count(what), 0);
        }
        DUE.is("1 cell", x.cell(0, 0), CutBoard.NONE);
        DUE.is("1 cut", x.cut(0), CutBoard.NONE);
        DUE.is("1 saw", x.saw(0, 0), CutBoard.NONE);
        DUE.is("1 piece", x.piece(0, 1), CutBoard.NONE);
        DUE.is("1 joined", x.joined(0, 0), CutBoard.NONE);
        DUE.is("1 sheets", x.sheets(1), CutBoard.NONE);
        DUE.is("1 proof", x.pull(-1, 0), CutBoard.NONE);
        DUE.is("1 pull", x.pull(0, 0), CutBoard.NONE);
        DUE.is("1 blended proof", x.blend(-1, 120), CutBoard.NONE);
        DUE.is("1 blend", x.blend(0, 120), CutBoard.NONE);
        DUE.is("1 free", x.free(0, 0), CutBoard.NONE);
        DUE.is("1 want", x.want(0, 0), CutBoard.NONE);
        DUE.is("1 fewest", x.fewest(1), CutBoard.NONE);
        DUE.is("1 order", x.order(0), CutBoard.NONE);
        DUE.is("1 place", x.place(0), CutBoard.NONE);
        DUE.is("1 why", x.why(1), CutBoard.NONE);
        DUE.is("1 shows", x.shows(0), CutBoard.NONE);
        DUE.is("1 book", x.book(0, 0), CutBoard.NONE);
        for (int what = 0; what <= 2; what++) {
            DUE.is("1 islands " + what, x.islands(what), 0);
        }
    }

    private static void promise2() {
        CutBoard x = new CutBoard();
        int[][] bad = {{0, 1}, {1, 0}, {9, 1}, {1, 9}, {-1, 1}, {1, -1}, {Integer.MIN_VALUE, 8}, {8, Integer.MAX_VALUE}};
        for (int[] size : bad) {
            DUE.is("2 bad size", x.board(size[0], size[1]), CutBoard.NONE);
        }
        DUE.is("2 told", x.board(8, 1), 1);
        DUE.is("2 was told", x.board(8, 1), CutBoard.STATE);
        DUE.is("2 NONE is named ahead of STATE", x.board(9, 1), CutBoard.NONE);
        DUE.is("2 all stand", x.count(5), 8);
        DUE.is("2 one piece", x.count(0), 1);
        DUE.is("2 the last row", x.cell(Due.at(7, 0), 0), 1);
        DUE.is("2 no column 1", x.cell(Due.at(0, 1), 0), CutBoard.NONE);
        DUE.is("2 the least", new CutBoard().board(1, 1), 1);
        DUE.is("2 the greatest", new CutBoard().board(8, 8), 1);
        DUE.is("2 the greatest has 64", Due.withBoard(8, 8).count(5), 64);
    }

    private static void promise9() {
        CutBoard x = Due.withBoard(5, 6);
        DUE.is("9 some", x.cut(Due.area(1, 2, 3, 5)), 6);
        DUE.is("9 some again", x.cut(Due.area(0, 2, 3, 4)), 2);
        DUE.is("9 none stood", x.cut(Due.area(1, 1, 3, 3)), 0);
        for (int cell = 0; cell < 64; cell++) {
            int row = cell / 8;
            int column = cell % 8;
            boolean cut = column >= 3 && row >= 1 && row <= 2 || row == 0 && (column == 3 || column == 4);
            DUE.is("9 cell " + cell, x.cell(cell, 0), row > 4 || column > 5 ? CutBoard.NONE : cut ? 0 : 1);
        }
        int[] bad = {-1, -64, -512, -4096, 4096, Due.area(2, 1, 0, 0), Due.area(0, 0, 2, 1), Due.area(0, 5, 0, 0),
            Due.area(0, 0, 0, 6), Due.area(5, 5, 0, 0), Due.area(0, 0, 6, 6), Integer.MIN_VALUE, Integer.MAX_VALUE,
            -512 + 64, 4096 + 64};
        for (int cells : bad) {
            DUE.is("9 bad area " + cells, x.cut(cells), CutBoard.NONE);
        }
        DUE.is("9 the refused cut nothing", x.count(5), 22);
        x.saw(0, Due.area(3, 4, 0, 1));
        x.piece(1, 0);
        DUE.is("9 one stands in a piece that is out", x.cut(Due.area(2, 3, 0, 0)), CutBoard.STATE);
        DUE.is("9 nothing of it was cut", x.count(5), 22);
        DUE.is("9 other pieces are cut", x.cut(Due.area(2, 2, 0, 1)), 2);
        x.piece(1, 1);
        DUE.is("9 over two pieces", x.cut(Due.area(3, 3, 1, 2)), 2);
        x.piece(1, 0);
        DUE.is("9 cut ones that are out are no matter", x.cut(Due.area(3, 3, 1, 3)), 1);
        cutAtTheCorners();
        DUE.is("9 the whole", Due.withBoard(8, 8).cut(4095 - 7 * 512 - 7 * 8), 64);
    }

    private static void cutAtTheCorners() {
        CutBoard x = Due.withBoard(8, 8);
        x.saw(0, Due.area(0, 0, 0, 0));
        x.saw(0, Due.area(7, 7, 7, 7));
        x.piece(1, 0);
        x.piece(2, 0);
        DUE.is("9 the first cell is out", x.cut(Due.area(0, 0, 0, 0)), CutBoard.STATE);
        DUE.is("9 the last cell is out", x.cut(Due.area(7, 7, 7, 7)), CutBoard.STATE);
        x.piece(1, 1);
        x.piece(2, 1);
        DUE.is("9 the last column", x.cut(Due.area(0, 7, 7, 7)), 8);
        DUE.is("9 the first cell", x.cut(Due.area(0, 0, 0, 0)), 1);
        DUE.is("9 the last row", x.cut(Due.area(7, 7, 0, 7)), 7);
    }

    private static void promise10() {
        CutBoard x = Due.withBoard(4, 4);
        x.cut(Due.area(0, 0, 0, 1));
        DUE.is("10 none of it is left", x.saw(0, Due.area(0, 3, 0, 3)), CutBoard.NOT);
        DUE.is("10 cut ones, too", x.saw(0, Due.area(0, 0, 0, 1)), 1);
        DUE.is("10 they are of it", x.cell(0, 1), 1);
        DUE.is("10 none is of it", x.saw(0, Due.area(0, 0, 0, 1)), CutBoard.NOT);
        DUE.is("10 all are of it", x.saw(1, Due.area(0, 1, 0, 1)), CutBoard.NOT);
        DUE.is("10 only those of the piece", x.saw(0, Due.area(0, 1, 0, 3)), 2);
        int[] due = {1, 1, 2, 2, 2, 2, 2, 2, 0, 0, 0, 0, 0, 0, 0, 0};
        for (int k = 0; k < 16; k++) {
            DUE.is("10 piece of " + k, x.cell(Due.at(k / 4, k % 4), 1), due[k]);
        }
        x.piece(2, 0);
        DUE.is("10 out as its piece is", x.saw(2, Due.area(0, 1, 3, 3)), 3);
        DUE.is("10 it is out", x.piece(3, 1), 0);
        DUE.is("10 in as its piece is", x.saw(3, Due.area(0, 0, 0, 3)), 4);
        DUE.is("10 it is in", x.piece(4, 1), 1);
        DUE.is("10 no piece 5", x.saw(5, Due.area(0, 0, 0, 0)), CutBoard.NONE);
        DUE.is("10 no piece -1", x.saw(-1, Due.area(0, 0, 0, 0)), CutBoard.NONE);
        DUE.is("10 no area", x.saw(0, Due.area(0, 4, 0, 0)), CutBoard.NONE);
        DUE.is("10 no area below 0", x.saw(0, -1), CutBoard.NONE);
        DUE.is("10 NONE ahead of NOT", x.saw(7, Due.area(0, 3, 0, 3)), CutBoard.NONE);
        DUE.is("10 pieces", x.count(0), 5);
    }

    private static void promise10Full() {
        CutBoard x = Due.withBoard(2, 8);
        for (int column = 0; column < 7; column++) {
            DUE.is("10 piece by piece", x.saw(0, Due.area(0, 1, column, column)), column + 1);
        }
        DUE.is("10 all pieces are there", x.saw(0, Due.area(0, 0, 7, 7)), CutBoard.FULL);
        DUE.is("10 NOT is named ahead of FULL", x.saw(0, Due.area(0, 1, 7, 7)), CutBoard.NOT);
        DUE.is("10 NONE is named ahead of FULL", x.saw(8, Due.area(0, 0, 7, 7)), CutBoard.NONE);
        DUE.is("10 still of piece 0", x.cell(Due.at(0, 7), 1), 0);
        DUE.is("10 eight", x.count(0), 8);
        DUE.is("10 the last piece is in", x.piece(7, 0), 1);
    }

    private static void promise11() {
        CutBoard x = Due.withBoard(2, 2);
        DUE.is("11 in at first", x.piece(0, 0), 1);
        DUE.is("11 out", x.piece(0, 0), 0);
        DUE.is("11 was out", x.piece(0, 1), 0);
        DUE.is("11 is 2", x.piece(0, 2), CutBoard.NONE);
        DUE.is("11 is -1", x.piece(0, -1), CutBoard.NONE);
        DUE.is("11 no piece 1", x.piece(1, 0), CutBoard.NONE);
        DUE.is("11 no piece -1", x.piece(-1, 0), CutBoard.NONE);
        DUE.is("11 no piece 8", x.piece(8, 0), CutBoard.NONE);
        DUE.is("11 still in", x.piece(0, 1), 1);
        x.cut(0);
        x.piece(0, 0);
        x.piece(0, 1);
        DUE.is("11 put in again as it is", x.cell(0, 0), 0);
        DUE.is("11 the others stand", x.islands(2), 3);
    }

    private static void promise12() {
        CutBoard x = Due.withBoard(3, 5);
        x.cut(Due.area(2, 2, 4, 4));
        x.saw(0, Due.area(2, 2, 3, 4));
        DUE.is("12 stands", x.cell(Due.at(2, 3), 0), 1);
        DUE.is("12 cut", x.cell(Due.at(2, 4), 0), 0);
        DUE.is("12 piece 1", x.cell(Due.at(2, 4), 1), 1);
        DUE.is("12 piece 0", x.cell(Due.at(2, 2), 1), 0);
        x.piece(1, 0);
        DUE.is("12 stands, though it is out", x.cell(Due.at(2, 3), 0), 1);
        DUE.is("12 what 2", x.cell(0, 2), CutBoard.NONE);
        DUE.is("12 what -1", x.cell(0, -1), CutBoard.NONE);
        DUE.is("12 no row 3", x.cell(Due.at(3, 0), 0), CutBoard.NONE);
        DUE.is("12 no column 5", x.cell(Due.at(0, 5), 1), CutBoard.NONE);
        for (int cell : NO_CELLS) {
            DUE.is("12 no cell " + cell, x.cell(cell, 0), CutBoard.NONE);
        }
    }

    private static void promise13() {
        CutBoard x = Due.withBoard(8, 8);
        expectIslands(x, 1, 64, 64);
        x.cut(Due.area(0, 7, 2, 2));
        expectIslands(x, 2, 40, 56);
        x.saw(0, Due.area(0, 2, 0, 7));
        expectIslands(x, 4, 25, 56);
        x.piece(0, 0);
        expectIslands(x, 2, 15, 21);
        x.piece(1, 0);
        expectIslands(x, 0, 0, 0);
        DUE.is("13 what 3", x.islands(3), CutBoard.NONE);
        DUE.is("13 what -1", x.islands(-1), CutBoard.NONE);
    }

    private static void expectIslands(CutBoard x, int howMany, int greatest, int all) {
        DUE.is("13 how many", x.islands(0), howMany);
        DUE.is("13 the greatest", x.islands(1), greatest);
        DUE.is("13 all", x.islands(2), all);
    }

    /** Corners join nothing, nor does the end of a row with the next row's beginning. */
    private static void promise13Diagonal() {
        CutBoard x = Due.withBoard(8, 8);
        for (int cell = 0; cell < 64; cell++) {
            if ((cell / 8 + cell % 8) % 2 == 1) {
                x.cut(Due.area(cell / 8, cell / 8, cell % 8, cell % 8));
            }
        }
        expectIslands(x, 32, 1, 32);
        CutBoard y = Due.withBoard(2, 8);
        y.cut(Due.area(0, 0, 0, 6));
        y.cut(Due.area(1, 1, 1, 7));
        expectIslands(y, 2, 1, 2);
        CutBoard snake = Due.withBoard(7, 8);
        snake.cut(Due.area(1, 1, 0, 6));
        snake.cut(Due.area(3, 3, 1, 7));
        snake.cut(Due.area(5, 5, 0, 6));
        expectIslands(snake, 1, 35, 35);
        DUE.is("13 both ends of the snake", snake.joined(Due.at(0, 0), Due.at(6, 0)), 1);
        CutBoard up = Due.withBoard(2, 3);
        up.cut(Due.area(0, 0, 1, 1));
        expectIslands(up, 1, 5, 5);
        CutBoard left = Due.withBoard(2, 2);
        left.cut(Due.area(0, 0, 0, 0));
        expectIslands(left, 1, 3, 3);
        CutBoard bowl = Due.withBoard(4, 3);
        bowl.cut(Due.area(0, 2, 1, 1));
        expectIslands(bowl, 1, 9, 9);
        DUE.is("13 both brims of the bowl", bowl.joined(Due.at(0, 0), Due.at(0, 2)), 1);
    }

    private static void promise14() {
        CutBoard x = Due.withBoard(4, 4);
        x.cut(Due.area(0, 3, 1, 1));
        x.saw(0, Due.area(2, 3, 2, 3));
        DUE.is("14 side by side", x.joined(Due.at(0, 2), Due.at(1, 3)), 1);
        DUE.is("14 the other way", x.joined(Due.at(1, 3), Due.at(0, 2)), 1);
        DUE.is("14 over the cut", x.joined(Due.at(0, 0), Due.at(0, 2)), 0);
        DUE.is("14 over the saw's way", x.joined(Due.at(1, 2), Due.at(2, 2)), 0);
        DUE.is("14 itself", x.joined(Due.at(0, 0), Due.at(0, 0)), 1);
        DUE.is("14 a cut one and itself", x.joined(Due.at(0, 1), Due.at(0, 1)), 0);
        DUE.is("14 two cut ones", x.joined(Due.at(0, 1), Due.at(1, 1)), 0);
        x.piece(1, 0);
        DUE.is("14 one that is out and itself", x.joined(Due.at(2, 2), Due.at(2, 2)), 0);
        DUE.is("14 two that are out", x.joined(Due.at(2, 2), Due.at(2, 3)), 0);
        DUE.is("14 no row 4", x.joined(Due.at(4, 0), 0), CutBoard.NONE);
        DUE.is("14 no column 4", x.joined(0, Due.at(0, 4)), CutBoard.NONE);
        for (int cell : NO_CELLS) {
            DUE.is("14 a is no cell", x.joined(cell, 0), CutBoard.NONE);
            DUE.is("14 b is no cell", x.joined(0, cell), CutBoard.NONE);
        }
    }
}
