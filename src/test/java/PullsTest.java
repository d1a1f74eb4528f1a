/** Promises 15 to 22: sheets, pulls, the book and what is dry when. */
public final class PullsTest {
    private static final Due DUE = new Due();
    private static final int[] NO_SHEETS = {-2, -100, 2, 102, 100, 200, 302, 10001, 10100, Integer.MIN_VALUE, Integer.MAX_VALUE};

    public static void main(String[] args) {
        promise15();
        promise16();
        promise16Pieces();
        promise16WetOnWet();
        promise16Register();
        promise16Full();
        promise17();
        promise17WetOnWet();
        promise18();
        promise19();
        promise20();
        promise21();
        promise22();
        promise22Cells();
        DUE.end();
    }

    private static void promise15() {
        CutBoard x = new CutBoard();
        DUE.is("15 no board", x.sheets(1), CutBoard.NONE);
        x.board(2, 2);
        DUE.is("15 0", x.sheets(0), CutBoard.NONE);
        DUE.is("15 -1", x.sheets(-1), CutBoard.NONE);
        DUE.is("15 MIN", x.sheets(Integer.MIN_VALUE), CutBoard.NONE);
        DUE.is("15 MAX", x.sheets(Integer.MAX_VALUE), CutBoard.NONE);
        DUE.is("15 three", x.sheets(3), 3);
        DUE.is("15 more", x.sheets(1), 4);
        DUE.is("15 too many", x.sheets(17), CutBoard.FULL);
        DUE.is("15 NONE ahead of FULL", x.sheets(21), CutBoard.NONE);
        DUE.is("15 the refused laid none", x.count(1), 4);
        DUE.is("15 no sheet 4", x.good(4), CutBoard.NONE);
        DUE.is("15 just all", x.sheets(16), 20);
        DUE.is("15 one too many", x.sheets(1), CutBoard.FULL);
        DUE.is("15 all at once", Due.withBoard(1, 1).sheets(20), 20);
        DUE.is("15 good at first", x.good(19), 1);
        DUE.is("15 paper at first", x.colour(19, 0), 0);
    }

    private static void promise16() {
        CutBoard x = Due.withSheets(3, 4, 4);
        x.cut(Due.area(0, 0, 0, 1));
        DUE.is("16 the first", x.pull(102, 4), 0);
        int[] due = {0, 5, 5, 0};
        for (int sheet = 0; sheet < 4; sheet++) {
            DUE.is("16 cut", x.colour(sheet, Due.at(0, 1)), 0);
            DUE.is("16 standing", x.colour(sheet, Due.at(0, 2)), due[sheet]);
            DUE.is("16 the last cell", x.colour(sheet, Due.at(2, 3)), due[sheet]);
        }
        x.table(3, 5, 14);
        x.table(3, 0, 13);
        DUE.is("16 the second", x.pull(3, 3), 1);
        DUE.is("16 on paper", x.colour(0, Due.at(2, 3)), 13);
        DUE.is("16 on the first ink", x.colour(1, Due.at(2, 3)), 14);
        DUE.is("16 one sheet", x.pull(303, 0), 2);
        DUE.is("16 ink 0", x.colour(3, Due.at(2, 3)), 1);
        DUE.is("16 a proof", x.pull(-1, 9), 3);
        DUE.is("16 a proof lays nothing", x.colour(0, Due.at(2, 3)), 13);
        CutBoard y = Due.withSheets(2, 2, 2);
        for (int sheets : NO_SHEETS) {
            DUE.is("16 no sheets " + sheets, y.pull(sheets, 0), CutBoard.NONE);
        }
        DUE.is("16 ink 10", y.pull(0, 10), CutBoard.NONE);
        DUE.is("16 ink -1", y.pull(0, -1), CutBoard.NONE);
        DUE.is("16 a proof's ink 10", y.pull(-1, 10), CutBoard.NONE);
        DUE.is("16 the refused are not kept", y.count(3), 0);
        DUE.is("16 no sheet yet", Due.withBoard(1, 1).pull(0, 0), CutBoard.NONE);
        DUE.is("16 a proof needs no sheet", Due.withBoard(1, 1).pull(-1, 0), 0);
    }

    private static void promise16Pieces() {
        CutBoard x = Due.withSheets(2, 3, 1);
        x.saw(0, Due.area(0, 1, 0, 0));
        x.saw(0, Due.area(0, 1, 1, 1));
        x.piece(0, 0);
        x.cut(Due.area(0, 0, 1, 1));
        DUE.is("16 pieces in", x.pull(0, 6), 0);
        int[] due = {7, 0, 0, 7, 7, 0};
        for (int k = 0; k < 6; k++) {
            DUE.is("16 cell " + k, x.colour(0, Due.at(k / 3, k % 3)), due[k]);
        }
        DUE.is("16 cells laid", x.book(0, 3), 3);
    }

    private static void promise16WetOnWet() {
        CutBoard x = Due.withSheets(2, 2, 3);
        x.against(1, 2, 1);
        x.drying(1, 5);
        x.pull(2, 1);
        x.drying(1, 500);
        DUE.is("16 not the other way", x.against(2, 1, 0), 0);
        x.minutes(4);
        x.table(2, 2, 11);
        DUE.is("16 still wet", x.pull(0, 2), 1);
        DUE.is("16 spoiled", x.good(0), 0);
        for (int cell : new int[] {0, 1, 8, 9}) {
            DUE.is("16 all is laid all the same", x.colour(0, cell), 11);
            DUE.is("16 by this pull", x.led(0, cell, 0), 1);
        }
        DUE.is("16 told in the book", x.book(1, 4), 1);
        x.pull(0, 5);
        DUE.is("16 a spoiled sheet gets no ink", x.colour(0, 0), 11);
        DUE.is("16 and is not spoiled again", x.book(2, 4), 0);
        x.minutes(1);
        x.pull(101, 2);
        DUE.is("16 dry at its minute", x.good(1), 1);
        x.pull(101, 1);
        DUE.is("16 ink 1 on wet 2 is not told against", x.good(1), 1);
        DUE.is("16 by the drying told at the pull", x.led(1, 0, 2), 505);
        x.pull(101, 2);
        DUE.is("16 ink 2 on wet 1 is", x.good(1), 0);
        x.cut(Due.area(0, 0, 0, 0));
        x.pull(202, 1);
        x.pull(202, 2);
        DUE.is("16 one wet cell is enough", x.good(2), 0);
        DUE.is("16 the cell that was cut", x.led(2, 0, 1), 1);
    }

    private static void promise16Register() {
        CutBoard x = Due.withSheets(1, 2, 3);
        x.lots(0, 999);
        x.lots(1, 1);
        x.pull(2, 0);
        for (int sheet = 0; sheet < 3; sheet++) {
            DUE.is("16 off", x.good(sheet), 0);
            DUE.is("16 the throw goes ahead of the ink", x.colour(sheet, 0), 0);
            DUE.is("16 not led", x.led(sheet, 0, 1), 0);
        }
        DUE.is("16 spoiled by register", x.book(0, 4), 3);
        DUE.is("16 cells all the same", x.book(0, 3), 2);
        x.pull(2, 0);
        DUE.is("16 none is left to spoil", x.book(1, 4), 0);
        proofsThrowNothing();
    }

    /** z goes on for good sheets alone, and with a slip of 0, too. */
    private static void proofsThrowNothing() {
        int z = 5;
        CutBoard x = Due.withSheets(1, 1, 2);
        x.lots(1, z);
        x.pull(-1, 0);
        x.pull(1, 0);
        x.pull(-1, 0);
        for (int k = 0; k < 2; k++) {
            z = z * 1103515245 + 12345;
        }
        z = z * 1103515245 + 12345;
        int lot = (z >>> 8) % 1000;
        x.lots(0, lot);
        x.pull(0, 0);
        DUE.is("16 not less than slip", x.good(0), 1);
        z = z * 1103515245 + 12345;
        x.lots(0, (z >>> 8) % 1000 + 1);
        x.pull(101, 0);
        DUE.is("16 less than slip", x.good(1), 0);
        x.pull(101, 0);
        z = z * 1103515245 + 12345;
        x.lots(0, (z >>> 8) % 1000);
        x.pull(1, 0);
        DUE.is("16 a spoiled sheet is not thrown for", x.good(0), 1);
    }

    private static void promise16Full() {
        CutBoard x = Due.withSheets(1, 1, 1);
        for (int k = 0; k < 200; k++) {
            DUE.is("16 kept", k % 2 == 0 ? x.pull(-1, 0) : x.blend(-1, 120), k);
        }
        DUE.is("16 full", x.pull(0, 1), CutBoard.FULL);
        DUE.is("16 full for a proof", x.pull(-1, 1), CutBoard.FULL);
        DUE.is("17 full", x.blend(0, 120), CutBoard.FULL);
        DUE.is("16 NONE ahead of FULL", x.pull(1, 1), CutBoard.NONE);
        DUE.is("16 NONE ahead of FULL, ink", x.pull(0, 10), CutBoard.NONE);
        DUE.is("17 NONE ahead of FULL", x.blend(0, 110), CutBoard.NONE);
        DUE.is("16 nothing was laid", x.colour(0, 0), 0);
        DUE.is("16 the last", x.book(199, 0), 10);
        DUE.is("16 no more", x.book(200, 0), CutBoard.NONE);
    }

    private static void promise17() {
        CutBoard x = Due.withSheets(2, 4, 3);
        x.mixed(5, 3, 8);
        DUE.is("17 the first", x.blend(1, 352), 0);
        int[] due = {4, 4, 9, 6};
        for (int column = 0; column < 4; column++) {
            DUE.is("17 column " + column, x.colour(0, Due.at(1, column)), due[column]);
            DUE.is("17 the other sheet", x.colour(1, Due.at(0, column)), due[column]);
            DUE.is("17 no such sheet", x.colour(2, Due.at(0, column)), 0);
        }
        DUE.is("17 in column 0", x.blend(202, 530), 1);
        DUE.is("17 column 0 is mixed", x.colour(2, Due.at(0, 0)), 9);
        DUE.is("17 behind it is q", x.colour(2, Due.at(0, 1)), 4);
        DUE.is("17 in the last column", x.blend(202, 903), 2);
        DUE.is("17 ahead of it is p", x.colour(2, Due.at(0, 2)), 10);
        DUE.is("17 mixed is 0 at first", x.colour(2, Due.at(0, 3)), 1);
        DUE.is("17 a proof", x.blend(-1, 10), 3);
        DUE.is("17 no column 4", x.blend(0, 354), CutBoard.NONE);
        DUE.is("17 p is q", x.blend(0, 330), CutBoard.NONE);
        DUE.is("17 p 10", x.blend(0, 1030), CutBoard.NONE);
        DUE.is("17 below 0", x.blend(0, -1), CutBoard.NONE);
        DUE.is("17 MIN", x.blend(0, Integer.MIN_VALUE), CutBoard.NONE);
        DUE.is("17 MAX", x.blend(0, Integer.MAX_VALUE), CutBoard.NONE);
        DUE.is("17 no sheet 3", x.blend(3, 350), CutBoard.NONE);
        DUE.is("17 no sheets -2", x.blend(-2, 350), CutBoard.NONE);
        DUE.is("17 the refused are not kept", x.count(3), 4);
        CutBoard wide = Due.withSheets(1, 8, 1);
        DUE.is("17 column 7", wide.blend(0, 987), 0);
        DUE.is("17 no column 8", wide.blend(0, 988), CutBoard.NONE);
        DUE.is("17 column 6 is p", wide.colour(0, 6), 10);
        DUE.is("17 column 7 is mixed", wide.colour(0, 7), 1);
    }

    /** Each column has its own ink: its drying, and what it is told against. */
    private static void promise17WetOnWet() {
        CutBoard x = Due.withSheets(1, 3, 2);
        x.mixed(1, 2, 3);
        x.drying(1, 10);
        x.drying(2, 20);
        x.drying(3, 30);
        x.against(3, 4, 1);
        x.against(4, 2, 1);
        x.blend(1, 121);
        DUE.is("17 dries as p", x.led(0, 0, 2), 10);
        DUE.is("17 dries as mixed", x.led(0, 1, 2), 30);
        DUE.is("17 dries as q", x.led(0, 2, 2), 20);
        DUE.is("22 of the mixed ink", x.free(1, 4), 30);
        x.cut(Due.area(0, 0, 1, 1));
        DUE.is("22 not where it is cut", x.free(1, 4), 0);
        x.pull(0, 4);
        DUE.is("17 p and q bear it", x.good(0), 1);
        x.blend(0, 120);
        DUE.is("17 q lies on 4", x.good(0), 0);
    }

    private static void promise18() {
        CutBoard x = Due.withSheets(2, 3, 2);
        x.pull(101, 9);
        DUE.is("18 paper", x.colour(0, 0), 0);
        DUE.is("18 ink", x.colour(1, Due.at(1, 2)), 10);
        DUE.is("18 no sheet 2", x.colour(2, 0), CutBoard.NONE);
        DUE.is("18 no sheet -1", x.colour(-1, 0), CutBoard.NONE);
        DUE.is("18 no sheet MAX", x.colour(Integer.MAX_VALUE, 0), CutBoard.NONE);
        DUE.is("18 no row 2", x.colour(0, Due.at(2, 0)), CutBoard.NONE);
        DUE.is("18 no column 3", x.colour(0, Due.at(0, 3)), CutBoard.NONE);
        DUE.is("18 no cell -1", x.colour(0, -1), CutBoard.NONE);
        DUE.is("18 no cell 64", x.colour(0, 64), CutBoard.NONE);
    }

    private static void promise19() {
        CutBoard x = Due.withSheets(2, 3, 2);
        DUE.is("19 none laid", x.led(0, 0, 0), -1);
        DUE.is("19 none laid there", x.led(0, 0, 1), 0);
        DUE.is("19 never wet", x.led(0, 0, 2), 0);
        x.pull(-1, 4);
        x.minutes(7);
        x.pull(1, 4);
        x.cut(Due.area(0, 0, 0, 0));
        x.minutes(7);
        x.drying(5, 999);
        x.blend(101, 560);
        DUE.is("19 last of a cut one", x.led(1, 0, 0), 1);
        DUE.is("19 last", x.led(1, Due.at(1, 1), 0), 2);
        DUE.is("19 how many", x.led(1, Due.at(1, 1), 1), 2);
        DUE.is("19 how many of a cut one", x.led(1, 0, 1), 1);
        DUE.is("19 wet of a cut one", x.led(1, 0, 2), 67);
        DUE.is("19 wet", x.led(1, Due.at(1, 1), 2), 74);
        DUE.is("19 of the other sheet", x.led(0, Due.at(1, 1), 0), 1);
        DUE.is("19 what 3", x.led(0, 0, 3), CutBoard.NONE);
        DUE.is("19 what -1", x.led(0, 0, -1), CutBoard.NONE);
        DUE.is("19 no sheet 2", x.led(2, 0, 1), CutBoard.NONE);
        DUE.is("19 no sheet -1", x.led(-1, 0, 1), CutBoard.NONE);
        DUE.is("19 no cell", x.led(0, Due.at(2, 0), 1), CutBoard.NONE);
        DUE.is("19 no cell -1", x.led(0, -1, 1), CutBoard.NONE);
        x.minutes(1000);
        DUE.is("19 it stays when it is dry", x.led(1, 0, 2), 67);
    }

    private static void promise20() {
        CutBoard x = Due.withSheets(1, 1, 2);
        x.against(0, 0, 1);
        DUE.is("20 at first", x.good(1), 1);
        x.pull(101, 0);
        x.pull(101, 0);
        DUE.is("20 spoiled", x.good(1), 0);
        DUE.is("20 the other", x.good(0), 1);
        x.minutes(1000);
        DUE.is("20 spoiled for good", x.good(1), 0);
        DUE.is("20 no sheet 2", x.good(2), CutBoard.NONE);
        DUE.is("20 no sheet -1", x.good(-1), CutBoard.NONE);
        DUE.is("20 no sheet 20", x.good(20), CutBoard.NONE);
    }

    private static void promise21() {
        CutBoard x = Due.withSheets(3, 3, 3);
        x.minutes(12);
        x.against(7, 8, 1);
        x.pull(102, 7);
        x.minutes(3);
        x.cut(Due.area(0, 0, 0, 2));
        x.pull(2, 8);
        x.blend(0, 122);
        x.pull(-1, 6);
        x.blend(-1, 122);
        x.pull(102, 1);
        int[][] due = {{7, 12, 102, 9, 0}, {8, 15, 2, 6, 2}, {10, 15, 0, 6, 0}, {6, 15, -1, 0, 0}, {10, 15, -1, 0, 0},
            {1, 15, 102, 6, 0}};
        for (int pull = 0; pull < due.length; pull++) {
            for (int what = 0; what < 5; what++) {
                DUE.is("21 pull " + pull + " what " + what, x.book(pull, what), due[pull][what]);
            }
        }
        DUE.is("21 what 5", x.book(0, 5), CutBoard.NONE);
        DUE.is("21 what -1", x.book(0, -1), CutBoard.NONE);
        DUE.is("21 no pull 6", x.book(6, 0), CutBoard.NONE);
        DUE.is("21 no pull -1", x.book(-1, 0), CutBoard.NONE);
        DUE.is("21 no pull 200", x.book(200, 0), CutBoard.NONE);
    }

    private static void promise22() {
        CutBoard x = Due.withSheets(2, 2, 3);
        x.minutes(100);
        x.against(1, 5, 1);
        x.against(2, 5, 1);
        x.drying(1, 30);
        x.drying(2, 70);
        x.pull(0, 1);
        x.pull(101, 2);
        x.pull(202, 3);
        DUE.is("22 sheet 0", x.free(0, 5), 130);
        DUE.is("22 sheets 0 to 1", x.free(1, 5), 170);
        DUE.is("22 sheets 1 to 2", x.free(102, 5), 170);
        DUE.is("22 not told against", x.free(202, 5), 100);
        DUE.is("22 another ink", x.free(2, 1), 100);
        x.minutes(50);
        DUE.is("22 at least the minute", x.free(0, 5), 150);
        DUE.is("22 ink 10", x.free(0, 10), CutBoard.NONE);
        DUE.is("22 ink -1", x.free(0, -1), CutBoard.NONE);
        DUE.is("22 no proof", x.free(-1, 5), CutBoard.NONE);
        DUE.is("22 no sheet 3", x.free(3, 5), CutBoard.NONE);
        DUE.is("22 last ahead of first", x.free(201, 5), CutBoard.NONE);
        DUE.is("22 MIN", x.free(Integer.MIN_VALUE, 5), CutBoard.NONE);
        x.minutes(19);
        DUE.is("22 a minute ahead", x.free(101, 5), 170);
        x.pull(101, 5);
        DUE.is("22 then it spoils", x.good(1), 0);
        CutBoard y = Due.withSheets(1, 1, 1);
        for (int k = 0; k < 99; k++) {
            y.minutes(1000);
        }
        y.minutes(999);
        y.drying(0, 999);
        y.against(0, 0, 1);
        y.pull(0, 0);
        DUE.is("22 beyond the last minute", y.free(0, 0), 99999 + 999);
    }

    /** Only where the pull would lay: standing cells of pieces that are in, on good sheets. */
    private static void promise22Cells() {
        CutBoard x = Due.withSheets(1, 3, 2);
        x.against(1, 1, 1);
        x.pull(1, 1);
        DUE.is("22 all cells", x.free(1, 1), 60);
        x.saw(0, Due.area(0, 0, 0, 0));
        x.piece(0, 0);
        DUE.is("22 one piece is in", x.free(1, 1), 60);
        x.piece(1, 0);
        DUE.is("22 no piece is in", x.free(1, 1), 0);
        x.piece(1, 1);
        x.cut(Due.area(0, 0, 0, 0));
        DUE.is("22 none stands", x.free(1, 1), 0);
        x.piece(0, 1);
        DUE.is("22 the other piece is wet", x.free(1, 1), 60);
        x.pull(0, 1);
        DUE.is("22 a spoiled sheet gets no ink", x.free(0, 1), 0);
        DUE.is("22 the good one does", x.free(1, 1), 60);
    }
}
