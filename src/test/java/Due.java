/** Counts the answers that are not the ones due, and ends the program with 1 if there was one. */
final class Due {
    private int asked = 0;
    private int wrong = 0;

    void is(String call, long got, long want) {
        asked++;
        if (got != want) {
            wrong++;
            System.out.println(call + " answered " + got + ", due is " + want);
        }
    }

    void holds(String what, boolean is) {
        is(what, is ? 1 : 0, 1);
    }

    void end() {
        System.out.println(asked + " answers, " + wrong + " not as due");
        if (wrong > 0 || asked == 0) {
            System.exit(1);
        }
    }

    /** A rectangle as cut() and saw() take it. */
    static int area(int firstRow, int lastRow, int firstColumn, int lastColumn) {
        return 512 * firstRow + 64 * lastRow + 8 * firstColumn + lastColumn;
    }

    /** A cell of the board or of a sheet. */
    static int at(int row, int column) {
        return 8 * row + column;
    }

    /** A row of inks as alike() and made() take it. */
    static int row(int... inks) {
        int told = 0;
        for (int ink : inks) {
            told = told * 11 + ink + 1;
        }
        return told;
    }

    static CutBoard withBoard(int rows, int columns) {
        CutBoard x = new CutBoard();
        x.board(rows, columns);
        return x;
    }

    static CutBoard withSheets(int rows, int columns, int sheets) {
        CutBoard x = withBoard(rows, columns);
        x.sheets(sheets);
        return x;
    }
}
