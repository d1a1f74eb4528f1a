/** Promises 23 to 33: wanted pictures, rows of inks, how many to begin with, counts. */
public final class PicturesTest {
    private static final Due DUE = new Due();

    public static void main(String[] args) {
        promise23();
        promise24();
        promise25();
        promise26And27();
        promise28();
        promise29();
        promise30();
        promise31();
        promise32();
        promise32Smaller();
        promise33();
        DUE.end();
    }

    private static CutBoard wanting(int... colours) {
        CutBoard x = new CutBoard();
        x.wanted(4, 4);
        for (int cell = 0; cell < colours.length; cell++) {
            x.want(cell, colours[cell]);
        }
        return x;
    }

    private static void promise23() {
        CutBoard x = new CutBoard();
        int[][] bad = {{0, 1}, {1, 0}, {5, 1}, {1, 5}, {-1, 2}, {2, Integer.MIN_VALUE}, {Integer.MAX_VALUE, 2}};
        for (int[] size : bad) {
            DUE.is("23 bad size", x.wanted(size[0], size[1]), CutBoard.NONE);
        }
        DUE.is("23 none yet", x.fewest(1), CutBoard.NONE);
        DUE.is("23 told", x.wanted(2, 3), 1);
        x.want(0, 9);
        DUE.is("23 a bad size changes nothing", x.wanted(5, 5), CutBoard.NONE);
        DUE.is("23 it is as it was", x.want(0, 9), 9);
        DUE.is("23 told again", x.wanted(2, 3), 1);
        DUE.is("23 all paper again", x.want(0, 9), 0);
        DUE.is("23 the least", x.wanted(1, 1), 1);
        DUE.is("23 the greatest", x.wanted(4, 4), 1);
        DUE.is("23 its last cell", x.want(15, 1), 0);
    }

    private static void promise24() {
        CutBoard x = new CutBoard();
        DUE.is("24 no picture", x.want(0, 1), CutBoard.NONE);
        x.wanted(2, 3);
        DUE.is("24 at first", x.want(6, 15), 0);
        DUE.is("24 told", x.want(6, 0), 15);
        DUE.is("24 paper", x.want(6, 1), 0);
        DUE.is("24 no column 3", x.want(3, 1), CutBoard.NONE);
        DUE.is("24 no row 2", x.want(8, 1), CutBoard.NONE);
        DUE.is("24 no cell 16", x.want(16, 1), CutBoard.NONE);
        DUE.is("24 no cell -1", x.want(-1, 1), CutBoard.NONE);
        DUE.is("24 no cell MIN", x.want(Integer.MIN_VALUE, 1), CutBoard.NONE);
        DUE.is("24 colour 16", x.want(6, 16), CutBoard.NONE);
        DUE.is("24 colour -1", x.want(6, -1), CutBoard.NONE);
        DUE.is("24 as it was", x.want(6, 1), 1);
    }

    private static void promise25() {
        CutBoard x = wanting(0);
        DUE.is("25 all paper", x.fewest(0), 0);
        DUE.is("25 all paper, inks allowed", x.fewest(1023), 0);
        DUE.is("25 inks 1024", x.fewest(1024), CutBoard.NONE);
        DUE.is("25 inks -1", x.fewest(-1), CutBoard.NONE);
        x.want(5, 10);
        DUE.is("25 the only ink", x.fewest(512), 1);
        DUE.is("25 not the ink", x.fewest(511), CutBoard.NOT);
        DUE.is("25 five", wanting(1, 2, 3, 4, 5).fewest(1023), 5);
        DUE.is("25 six are too many", wanting(1, 2, 3, 4, 5, 6).fewest(1023), CutBoard.NOT);
        DUE.is("25 colours that no ink makes", wanting(11).fewest(1023), CutBoard.NOT);
        CutBoard deep = stair();
        DUE.is("25 by way of others", deep.fewest(1), 5);
        deep.want(0, 6);
        DUE.is("25 not by five", deep.fewest(1), CutBoard.NOT);
        CutBoard back = wanting(4, 2);
        back.table(0, 0, 2);
        back.table(0, 2, 0);
        back.table(1, 0, 4);
        back.table(1, 2, 3);
        back.table(1, 4, 3);
        DUE.is("25 back to paper and on", back.fewest(3), 3);
        DUE.is("25 by inks", back.order(0) * 100 + back.order(1) * 10 + back.order(2), 1);
    }

    /** Ink 0 makes of each colour the next one; wanted is colour 5 alone. */
    private static CutBoard stair() {
        CutBoard x = wanting(5);
        for (int colour = 0; colour < 15; colour++) {
            x.table(0, colour, colour + 1);
        }
        return x;
    }

    private static void promise26And27() {
        CutBoard x = wanting(7, 2, 0, 7);
        x.table(8, 0, 2);
        x.table(3, 2, 7);
        DUE.is("26 two pulls", x.fewest(1023), 2);
        DUE.is("26 the first by numbers", x.order(0), 1);
        DUE.is("26 the second", x.order(1), 3);
        DUE.is("26 no third", x.order(2), CutBoard.NONE);
        DUE.is("26 no -1", x.order(-1), CutBoard.NONE);
        int[] due = {2, 1, 0, 2};
        for (int cell = 0; cell < 4; cell++) {
            DUE.is("27 place", x.place(cell), due[cell]);
        }
        DUE.is("26 by others", x.fewest(256 + 8), 2);
        DUE.is("26 ink 8", x.order(0), 8);
        DUE.is("26 ink 3", x.order(1), 3);
        x.want(0, 12);
        DUE.is("26 no row", x.fewest(1023), CutBoard.NOT);
        DUE.is("26 refused", x.fewest(-1), CutBoard.NONE);
        x.why(1023);
        x.table(8, 0, 5);
        DUE.is("26 of the latest that found one", x.order(0), 8);
        DUE.is("27 as it was then", x.place(0), 2);
        x.wanted(1, 2);
        DUE.is("27 of the picture as it was then", x.place(3), 2);
        DUE.is("26 the row stays", x.order(1), 3);
        DUE.is("26 now none is needed", x.fewest(1023), 0);
        DUE.is("26 an empty row", x.order(0), CutBoard.NONE);
        DUE.is("27 paper", x.place(1), 0);
        DUE.is("27 no column 2", x.place(2), CutBoard.NONE);
        DUE.is("27 no row 1", x.place(4), CutBoard.NONE);
        DUE.is("27 no cell -1", x.place(-1), CutBoard.NONE);
        DUE.is("27 no cell 16", x.place(16), CutBoard.NONE);
        leastPlace();
    }

    private static void leastPlace() {
        CutBoard x = wanting(2, 3, 4);
        x.table(1, 0, 2);
        x.table(1, 2, 3);
        x.table(1, 3, 2);
        x.table(3, 2, 4);
        x.table(3, 0, 1);
        x.table(3, 3, 1);
        DUE.is("27 twice the same colour", x.fewest(2 + 8), 4);
        DUE.is("27 the least place", x.place(0), 1);
        DUE.is("27 the second", x.place(1), 2);
        DUE.is("27 the last", x.place(2), 4);
        DUE.is("27 never cut, as it has all pulls", x.order(3), 3);
        DUE.is("27 paper", x.place(3), 0);
    }

    private static void promise28() {
        CutBoard x = wanting(0, 1, 2, 11, 12);
        DUE.is("28 never made", x.why(1023), 1 << 11 | 1 << 12);
        DUE.is("28 with ink 0 alone", x.why(1), 1 << 2 | 1 << 11 | 1 << 12);
        DUE.is("28 with none", x.why(0), 1 << 1 | 1 << 2 | 1 << 11 | 1 << 12);
        DUE.is("28 inks 1024", x.why(1024), CutBoard.NONE);
        DUE.is("28 inks -1", x.why(-1), CutBoard.NONE);
        DUE.is("28 no picture", new CutBoard().why(0), CutBoard.NONE);
        DUE.is("28 all paper", wanting(0).why(0), 0);
        DUE.is("28 there is a row", wanting(1, 2, 3, 4, 5).why(31), 0);
        DUE.is("28 not all together, with paper", wanting(1, 2, 3, 4, 5, 6).why(1023), 126);
        CutBoard full = wanting(10, 9, 8, 7, 6, 5, 4, 3, 2, 1, 1, 1, 1, 1, 1, 1);
        DUE.is("28 not all together, without paper", full.why(1023), 2046);
        DUE.is("28 by five", stair().why(1), 0);
        CutBoard deep = stair();
        deep.want(0, 6);
        deep.want(1, 3);
        DUE.is("28 not by five, though others are", deep.why(1), 1 << 6);
        CutBoard apart = wanting(1, 2);
        for (int colour = 1; colour < 16; colour++) {
            apart.table(0, colour, 15);
            apart.table(1, colour, 15);
        }
        DUE.is("28 each, but not both", apart.why(3), 6);
        DUE.is("28 nor by fewest", apart.fewest(3), CutBoard.NOT);
    }

    private static void promise29() {
        CutBoard x = new CutBoard();
        int ab = Due.row(0, 1);
        int ba = Due.row(1, 0);
        DUE.is("29 both make both", x.alike(ab, ba, 1 << 1 | 1 << 2), 1);
        DUE.is("29 paper, too", x.alike(ab, ba, 1 | 1 << 1 | 1 << 2), 1);
        DUE.is("29 neither makes it", x.alike(ab, ba, 1 << 3), 0);
        DUE.is("29 the first alone", x.alike(Due.row(0, 4), ab, 1 << 5), 0);
        DUE.is("29 the other alone", x.alike(ab, Due.row(0, 4), 1 << 5), 0);
        DUE.is("29 no colours", x.alike(0, ab, 0), 1);
        DUE.is("29 empty rows make paper", x.alike(0, 0, 1), 1);
        DUE.is("29 empty rows make no more", x.alike(0, 0, 3), 0);
        x.table(1, 1, 9);
        DUE.is("29 by the table", x.alike(ab, ba, 1 << 1 | 1 << 2), 0);
        DUE.is("29 all colours", x.alike(ab, ba, 65535), 0);
        DUE.is("29 five inks", x.alike(Due.row(9, 8, 7, 6, 5), Due.row(5, 6, 7, 8, 9), 1984), 1);
        DUE.is("29 colours 65536", x.alike(ab, ba, 65536), CutBoard.NONE);
        DUE.is("29 colours -1", x.alike(ab, ba, -1), CutBoard.NONE);
        for (int bad : new int[] {-1, 11, 22, 12 * 11, 13 * 121, 161051, Integer.MIN_VALUE, Integer.MAX_VALUE}) {
            DUE.is("29 no row " + bad, x.alike(bad, ab, 1), CutBoard.NONE);
            DUE.is("29 no other row " + bad, x.alike(ab, bad, 1), CutBoard.NONE);
            DUE.is("30 no row " + bad, x.made(bad, 0), CutBoard.NONE);
        }
    }

    private static void promise30() {
        CutBoard x = new CutBoard();
        int told = Due.row(9, 0, 4, 4, 7);
        int[] due = {0, 10, 1, 5, 5, 8};
        for (int k = 0; k <= 5; k++) {
            DUE.is("30 first " + k, x.made(told, k), due[k]);
        }
        DUE.is("30 k 6", x.made(told, 6), CutBoard.NONE);
        DUE.is("30 k -1", x.made(told, -1), CutBoard.NONE);
        DUE.is("30 k MAX", x.made(told, Integer.MAX_VALUE), CutBoard.NONE);
        DUE.is("30 an empty row", x.made(0, 0), 0);
        DUE.is("30 an empty row's first", x.made(0, 1), CutBoard.NONE);
        DUE.is("30 a digit 10", x.made(10, 1), 10);
        x.table(4, 5, 14);
        DUE.is("30 on its own colour", x.made(told, 4), 14);
        DUE.is("30 the greatest", x.made(161050, 5), 10);
        DUE.is("30 a 0 within", x.made(11 * 11 + 1, 1), CutBoard.NONE);
    }

    private static void promise31() {
        CutBoard x = new CutBoard();
        int[] pulls = {0, 1, 2, 3, 7, 19, 20};
        int[] slips = {0, 1, 2, 10, 99, 333, 500, 900, 998, 999};
        int[] wishes = {1, 2, 3, 50, 99, 100};
        for (int n : pulls) {
            for (int slip : slips) {
                for (int w : wishes) {
                    DUE.is("31 begin " + n + " " + slip + " " + w, x.begin(n, slip, w), tried(n, slip, w));
                }
            }
        }
        DUE.is("31 just 100000", x.begin(1, 999, 100), 100000);
        DUE.is("31 above it", x.begin(2, 999, 1), CutBoard.NOT);
        int[][] bad = {{-1, 0, 1}, {21, 0, 1}, {0, -1, 1}, {0, 1000, 1}, {0, 0, 0}, {0, 0, 101}, {0, 0, -1},
            {Integer.MAX_VALUE, 0, 1}, {0, Integer.MIN_VALUE, 1}, {0, 0, Integer.MAX_VALUE}};
        for (int[] told : bad) {
            DUE.is("31 bad", x.begin(told[0], told[1], told[2]), CutBoard.NONE);
        }
    }

    /** The document's words, one number to begin with after the other. */
    private static int tried(int n, int slip, int w) {
        for (int m = 0; m <= 100000; m++) {
            int left = m;
            for (int k = 0; k < n; k++) {
                left = left * (1000 - slip) / 1000;
            }
            if (left >= w) {
                return m;
            }
        }
        return CutBoard.NOT;
    }

    private static void promise32() {
        CutBoard x = Due.withSheets(3, 3, 3);
        DUE.is("32 no picture", x.shows(0), CutBoard.NONE);
        x.wanted(2, 2);
        DUE.is("32 all paper", x.shows(0), 1);
        x.want(0, 3);
        DUE.is("32 not yet", x.shows(0), 0);
        x.cut(Due.area(0, 0, 1, 2));
        x.cut(Due.area(1, 2, 0, 2));
        x.pull(1, 2);
        DUE.is("32 it shows", x.shows(0), 1);
        DUE.is("32 another does", x.shows(1), 1);
        DUE.is("32 and one does not", x.shows(2), 0);
        x.want(5, 3);
        DUE.is("32 another cell", x.shows(0), 0);
        x.want(5, 0);
        x.against(2, 4, 1);
        x.table(4, 3, 3);
        x.pull(0, 4);
        DUE.is("32 spoiled, but it shows", x.good(0) * 10 + x.shows(0), 1);
        DUE.is("32 no sheet 3", x.shows(3), CutBoard.NONE);
        DUE.is("32 no sheet -1", x.shows(-1), CutBoard.NONE);
        CutBoard y = Due.withSheets(2, 2, 1);
        y.wanted(1, 1);
        y.want(0, 1);
        y.pull(0, 0);
        DUE.is("32 the rest is not paper", y.shows(0), 0);
        y.wanted(2, 2);
        y.want(0, 1);
        y.want(1, 1);
        y.want(4, 1);
        DUE.is("32 all but the last", y.shows(0), 0);
        y.want(5, 1);
        DUE.is("32 all", y.shows(0), 1);
    }

    private static void promise32Smaller() {
        CutBoard x = Due.withSheets(2, 3, 1);
        x.wanted(3, 2);
        DUE.is("32 too few rows", x.shows(0), CutBoard.NONE);
        x.wanted(2, 4);
        DUE.is("32 too few columns", x.shows(0), CutBoard.NONE);
        x.wanted(2, 3);
        DUE.is("32 just as great", x.shows(0), 1);
    }

    private static void promise33() {
        CutBoard x = Due.withSheets(4, 5, 6);
        x.saw(0, Due.area(0, 1, 0, 4));
        x.cut(Due.area(1, 2, 0, 0));
        x.piece(1, 0);
        x.minutes(44);
        x.against(0, 0, 1);
        x.pull(3, 0);
        x.pull(102, 0);
        x.pull(-1, 0);
        int[] due = {2, 6, 4, 3, 44, 18, 2};
        for (int what = 0; what < due.length; what++) {
            DUE.is("33 what " + what, x.count(what), due[what]);
        }
        DUE.is("33 what 7", x.count(7), CutBoard.NONE);
        DUE.is("33 what -1", x.count(-1), CutBoard.NONE);
        DUE.is("33 what MIN", x.count(Integer.MIN_VALUE), CutBoard.NONE);
    }
}
