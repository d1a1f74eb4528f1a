import java.util.function.Supplier;

/** The boundary cases that the document names for promises 23 to 33, a test for each sentence. */
public final class PicturesEdgesTest {
    private static final Due DUE = new Due();
    private static final Edges EDGES = new Edges(DUE);

    public static void main(String[] args) {
        wantedAtMost4By4();
        wantedIsAllPaperAgain();
        wantTakesCellsOfThePicture();
        wantTakesColours0To15();
        fewestTakesSetsOfInks();
        fewestOfNothing();
        rowsOf0To5();
        eachAnyNumberOfTimes();
        theLeastNumberOfPulls();
        ofSeveralTheFirstByNumbers();
        amongTheFirst0ToN();
        orderTakesAsManyAsTheRowHas();
        orderOfTheLatestThatFoundARow();
        placeTakesCellsOfThePictureAsItWasThen();
        placeIsTheLeastFrom0ToN();
        whyTakesSetsOfInks();
        whyTellsWhatNoRowMakes();
        whyTellsAllButPaper();
        alikeTakesRowsOfAtMost5();
        alikeTakesColours0To65535();
        alikeForNoneAndForAll();
        madeTakesRowsOfAtMost5();
        madeTakes0ToAsManyAsItHas();
        beginTakesPullsSlipAndWanted();
        beginIsTheLeast();
        beginAbove100000();
        showsTakesSheetsThatAreReady();
        showsOnABoardThatIsNotSmaller();
        showsTheRestPaper();
        countTakesWhat0To6();
        countAtTheLimits();
        DUE.end();
    }

    private static Supplier<CutBoard> picture(int rows, int columns) {
        return () -> {
            CutBoard x = new CutBoard();
            x.wanted(rows, columns);
            return x;
        };
    }

    private static CutBoard wanting(int... colours) {
        CutBoard x = new CutBoard();
        x.wanted(4, 4);
        for (int cell = 0; cell < colours.length; cell++) {
            x.want(cell, colours[cell]);
        }
        return x;
    }

    /** Ink 0 makes of each colour the next one. */
    private static CutBoard stairs(int... colours) {
        CutBoard x = wanting(colours);
        for (int colour = 0; colour < 15; colour++) {
            x.table(0, colour, colour + 1);
        }
        return x;
    }

    /** "WANTED has so many ROWS and COLUMNS (1 .. 4 each), all paper: 1. NONE." */
    private static void wantedAtMost4By4() {
        for (int other = 1; other <= 4; other++) {
            int fixed = other;
            EDGES.range("wanted rows", CutBoard::new, (x, v) -> x.wanted(v, fixed), 1, 4);
            EDGES.range("wanted columns", CutBoard::new, (x, v) -> x.wanted(fixed, v), 1, 4);
            EDGES.range("wanted rows on a lesser board", () -> Due.withBoard(1, 1), (x, v) -> x.wanted(v, fixed), 1, 4);
        }
        for (int rows = -1; rows <= 6; rows++) {
            for (int columns = -1; columns <= 6; columns++) {
                boolean asSaid = rows >= 1 && rows <= 4 && columns >= 1 && columns <= 4;
                DUE.is(rows + " by " + columns, new CutBoard().wanted(rows, columns), asSaid ? 1 : CutBoard.NONE);
            }
        }
    }

    private static void wantedIsAllPaperAgain() {
        CutBoard x = wanting(1, 2, 3, 4, 5, 6, 7, 8, 9, 10, 11, 12, 13, 14, 15, 1);
        DUE.is("refused", x.wanted(5, 4), CutBoard.NONE);
        DUE.is("refused, columns", x.wanted(4, 0), CutBoard.NONE);
        DUE.is("it is as it was", x.want(15, 1), 1);
        DUE.is("told again", x.wanted(4, 4), 1);
        for (int cell = 0; cell < 16; cell++) {
            DUE.is("paper", x.want(cell, 3), 0);
        }
        x.wanted(1, 1);
        DUE.is("lesser", x.want(0, 3), 0);
        DUE.is("no second cell", x.want(1, 3), CutBoard.NONE);
        x.wanted(4, 4);
        DUE.is("greater again, and paper", x.want(15, 0), 0);
    }

    private static boolean isCell(int v, int rows, int columns) {
        return v >= 0 && v / 4 < rows && v % 4 < columns;
    }

    /** "A CELL of it (4 times the ROW, and the COLUMN) is a COLOUR: what it was. NONE." */
    private static void wantTakesCellsOfThePicture() {
        for (int rows = 1; rows <= 4; rows++) {
            for (int columns = 1; columns <= 4; columns++) {
                int r = rows;
                int c = columns;
                EDGES.sweep("want on " + r + " by " + c, picture(r, c), (x, v) -> x.want(v, 15), -70, 300,
                    v -> isCell(v, r, c) ? 0 : CutBoard.NONE);
            }
        }
        EDGES.none("no WANTED", CutBoard::new, (x, v) -> x.want(v, 0), -1, 0, 1, 4, 15, 16);
        EDGES.none("no WANTED, but a board", () -> Due.withBoard(4, 4), (x, v) -> x.want(v, 0), -1, 0, 1, 4, 15, 16);
    }

    private static void wantTakesColours0To15() {
        EDGES.range("want, colour", picture(4, 4), (x, v) -> x.want(0, v), 0, 15);
        EDGES.range("want, colour of the last", picture(4, 4), (x, v) -> x.want(15, v), 0, 15);
        CutBoard x = wanting(15);
        DUE.is("refused", x.want(0, 16), CutBoard.NONE);
        DUE.is("refused, below", x.want(0, -1), CutBoard.NONE);
        DUE.is("it is as it was", x.want(0, 0), 15);
        DUE.is("paper", x.want(0, 0), 0);
    }

    /** "FEWEST with a set of INKS (bits 0 .. 1023): n; NOT. NONE: no WANTED." */
    private static void fewestTakesSetsOfInks() {
        EDGES.sweep("fewest, all paper", picture(1, 1), CutBoard::fewest, -1100, 2300,
            v -> v >= 0 && v <= 1023 ? 0 : CutBoard.NONE);
        EDGES.sweep("fewest, by ink 9 alone", () -> wanting(10), CutBoard::fewest, -1100, 2300,
            v -> v < 0 || v > 1023 ? CutBoard.NONE : v >= 512 ? 1 : CutBoard.NOT);
        EDGES.sweep("fewest, by ink 0 alone", () -> wanting(1), CutBoard::fewest, -5, 1100,
            v -> v < 0 || v > 1023 ? CutBoard.NONE : v % 2 == 1 ? 1 : CutBoard.NOT);
        EDGES.none("fewest, no WANTED", CutBoard::new, CutBoard::fewest, -1, 0, 1, 1023, 1024);
        EDGES.none("fewest, no WANTED but a board", () -> Due.withSheets(4, 4, 2), CutBoard::fewest, 0, 1, 1023);
    }

    private static void fewestOfNothing() {
        DUE.is("all paper without inks", wanting(0).fewest(0), 0);
        DUE.is("all paper with all inks", wanting(0).fewest(1023), 0);
        DUE.is("a colour without inks", wanting(0, 1).fewest(0), CutBoard.NOT);
        for (int colour = 11; colour <= 15; colour++) {
            DUE.is("a colour that no ink makes", wanting(colour).fewest(1023), CutBoard.NOT);
        }
    }

    /** "a row of INKS i1 .. in (n 0 .. 5)" */
    private static void rowsOf0To5() {
        for (int n = 0; n <= 7; n++) {
            DUE.is("stairs to " + n, stairs(n).fewest(1), n <= 5 ? n : CutBoard.NOT);
            CutBoard x = new CutBoard();
            x.wanted(4, 4);
            for (int k = 0; k < n; k++) {
                x.want(k, k + 1);
            }
            DUE.is("so many colours: " + n, x.fewest(1023), n <= 5 ? n : CutBoard.NOT);
            DUE.is("why " + n, x.why(1023), n <= 5 ? 0 : (1 << n + 1) - 2);
        }
        CutBoard whole = wanting(1, 2, 3, 4, 5, 5, 4, 3, 2, 1, 1, 2, 3, 4, 5, 1);
        DUE.is("five colours and no paper", whole.fewest(1023), 5);
        CutBoard last = wanting(15, 14, 13, 12, 11);
        for (int k = 0; k < 5; k++) {
            last.table(9, k == 0 ? 0 : 10 + k, 11 + k);
        }
        DUE.is("the five last colours by one ink", last.fewest(512), 5);
        DUE.is("five times ink 9", last.order(4), 9);
        DUE.is("the last colour has the last place", last.place(0), 5);
    }

    /** "(those allowed: a set of INKS, each any number of times)" */
    private static void eachAnyNumberOfTimes() {
        CutBoard x = stairs(1, 2, 3, 4, 5);
        DUE.is("five times the one", x.fewest(1), 5);
        for (int k = 0; k < 5; k++) {
            DUE.is("ink 0", x.order(k), 0);
        }
        DUE.is("none that isn't allowed", x.fewest(1022), CutBoard.NOT);
        DUE.is("nor ink 0 beside others", stairs(1).fewest(1022), CutBoard.NOT);
    }

    /** "the least n such that some row of n INKS ... makes all COLOURS" */
    private static void theLeastNumberOfPulls() {
        CutBoard x = stairs(3);
        DUE.is("by three of ink 0", x.fewest(1), 3);
        DUE.is("by one of ink 2", x.fewest(1 + 4), 1);
        DUE.is("though ink 0 is first by numbers", x.order(0), 2);
        CutBoard two = wanting(7);
        two.table(6, 0, 1);
        two.table(0, 0, 12);
        DUE.is("by two, as one makes another on paper", two.fewest(1023), 2);
        DUE.is("the first", two.order(0), 0);
        DUE.is("the second", two.order(1), 6);
    }

    /** "of several the first by numbers" */
    private static void ofSeveralTheFirstByNumbers() {
        CutBoard x = wanting(14);
        for (int ink = 3; ink < 10; ink++) {
            x.table(ink, 0, 14);
        }
        for (int ink = 3; ink < 10; ink++) {
            DUE.is("by one", x.fewest(1023 & -(1 << ink)), 1);
            DUE.is("the first of those allowed", x.order(0), ink);
        }
        CutBoard pair = wanting(2, 3);
        DUE.is("either way", pair.fewest(1023), 2);
        DUE.is("1 ahead", pair.order(0), 1);
        DUE.is("of 2", pair.order(1), 2);
        CutBoard free = wanting(13);
        free.table(5, 4, 13);
        DUE.is("two", free.fewest(1023), 2);
        DUE.is("first 3, which makes 4", free.order(0), 3);
        DUE.is("then 5", free.order(1), 5);
        CutBoard all = wanting(5, 4, 3, 2, 1);
        all.fewest(1023);
        for (int k = 0; k < 5; k++) {
            DUE.is("by numbers " + k, all.order(k), k);
        }
    }

    /** "makes all COLOURS of the picture among its 0 .. n first" */
    private static void amongTheFirst0ToN() {
        CutBoard x = wanting(0, 1, 10);
        DUE.is("paper is made by none", x.fewest(1023), 2);
        DUE.is("its place", x.place(0), 0);
        DUE.is("the first's place", x.place(1), 1);
        DUE.is("the last's place", x.place(2), 2);
        CutBoard back = wanting(1, 0);
        back.table(0, 0, 9);
        back.table(0, 9, 0);
        back.table(1, 0, 4);
        back.table(1, 9, 1);
        DUE.is("paper has place 0, too", back.fewest(3), 2);
        DUE.is("though paper comes again", back.place(1), 0);
    }

    /** "INK k (0 ..) of the latest fewest() that found a row. NONE." */
    private static void orderTakesAsManyAsTheRowHas() {
        for (int n = 0; n <= 5; n++) {
            int length = n;
            EDGES.sweep("order of " + n, () -> afterFewest(stairs(length)), CutBoard::order, -70, 300,
                v -> v >= 0 && v < length ? 0 : CutBoard.NONE);
        }
        EDGES.none("order ahead of fewest", () -> wanting(1), CutBoard::order, -1, 0, 1, 5);
        EDGES.none("order of a new object", CutBoard::new, CutBoard::order, -1, 0, 1, 5);
    }

    private static CutBoard afterFewest(CutBoard x) {
        x.fewest(1);
        return x;
    }

    private static void orderOfTheLatestThatFoundARow() {
        CutBoard x = wanting(10, 0, 5);
        x.fewest(1023);
        DUE.is("found", x.order(0) * 10 + x.order(1), 49);
        DUE.is("found none", x.fewest(1), CutBoard.NOT);
        DUE.is("not as said", x.fewest(1024), CutBoard.NONE);
        DUE.is("below", x.fewest(-1), CutBoard.NONE);
        x.why(1023);
        x.why(0);
        x.want(0, 15);
        x.table(4, 0, 8);
        x.wanted(1, 1);
        DUE.is("why finds a row, but leaves the one of fewest", x.why(1023), 0);
        x.want(0, 3);
        DUE.is("and another", x.why(4), 0);
        x.want(0, 0);
        DUE.is("it stays", x.order(0) * 10 + x.order(1), 49);
        DUE.is("and so do its places", x.place(0) * 100 + x.place(1) * 10 + x.place(2), 201);
        DUE.is("of all cells as they were then", x.place(15), 0);
        DUE.is("an empty row is found", x.fewest(0), 0);
        DUE.is("and has no ink", x.order(0), CutBoard.NONE);
        DUE.is("nor other cells", x.place(1), CutBoard.NONE);
    }

    /** "How many pulls a CELL of WANTED has by that row (as it was then). NONE." */
    private static void placeTakesCellsOfThePictureAsItWasThen() {
        for (int rows = 1; rows <= 4; rows++) {
            for (int columns = 1; columns <= 4; columns++) {
                int r = rows;
                int c = columns;
                EDGES.sweep("place on " + r + " by " + c, () -> afterFewest(picture(r, c).get()), CutBoard::place, -70, 300,
                    v -> isCell(v, r, c) ? 0 : CutBoard.NONE);
            }
        }
        EDGES.none("place ahead of fewest", picture(4, 4), CutBoard::place, -1, 0, 1, 15);
        EDGES.none("place when none was found", () -> afterFewest(wanting(9)), CutBoard::place, -1, 0, 1, 15);
        EDGES.none("place of a new object", CutBoard::new, CutBoard::place, -1, 0, 1, 15);
        CutBoard lesser = picture(1, 1).get();
        lesser.fewest(0);
        lesser.wanted(4, 4);
        DUE.is("its one cell", lesser.place(0), 0);
        DUE.is("not those of the new picture", lesser.place(1), CutBoard.NONE);
    }

    /** "the least place that gives its COLOUR (ahead of the pull behind it; n: never cut)" */
    private static void placeIsTheLeastFrom0ToN() {
        CutBoard x = stairs(0, 1, 2, 3, 4, 5);
        x.fewest(1);
        for (int cell = 0; cell < 6; cell++) {
            DUE.is("place " + cell, x.place(cell), cell);
        }
        DUE.is("paper", x.place(15), 0);
        CutBoard again = wanting(2, 7);
        again.table(1, 2, 6);
        again.table(1, 6, 2);
        again.table(8, 2, 5);
        again.table(8, 5, 7);
        again.table(8, 6, 1);
        again.table(8, 0, 1);
        again.table(1, 1, 2);
        DUE.is("once and again", again.fewest(2 + 256), 3);
        DUE.is("the least", again.place(0), 1);
        DUE.is("the last", again.place(1), 3);
    }

    /** "WHY NOT with a set of INKS, as bits; 0: there is a row. NONE: no WANTED." */
    private static void whyTakesSetsOfInks() {
        EDGES.sweep("why, all paper", picture(1, 1), CutBoard::why, -1100, 2300,
            v -> v >= 0 && v <= 1023 ? 0 : CutBoard.NONE);
        EDGES.sweep("why, ink 9", () -> wanting(10), CutBoard::why, -1100, 2300,
            v -> v < 0 || v > 1023 ? CutBoard.NONE : v >= 512 ? 0 : 1 << 10);
        EDGES.none("why, no WANTED", CutBoard::new, CutBoard::why, -1, 0, 1, 1023, 1024);
    }

    /** "the COLOURS of the picture (as a set) that no row of at most 5 allowed INKS makes at any place" */
    private static void whyTellsWhatNoRowMakes() {
        for (int colour = 0; colour < 16; colour++) {
            DUE.is("by none, colour " + colour, wanting(colour).why(0), colour == 0 ? 0 : 1 << colour);
            DUE.is("by all, colour " + colour, wanting(colour).why(1023), colour <= 10 ? 0 : 1 << colour);
            DUE.is("by five steps, colour " + colour, stairs(colour).why(1), colour <= 5 ? 0 : 1 << colour);
        }
        CutBoard all = wanting(0, 1, 2, 3, 4, 5, 6, 7, 8, 9, 10, 11, 12, 13, 14, 15);
        DUE.is("all colours by none", all.why(0), 65534);
        DUE.is("all colours by all", all.why(1023), 65536 - 2048);
        DUE.is("five steps, the rest not", stairs(0, 1, 2, 3, 4, 5, 6, 7, 15).why(1), 1 << 6 | 1 << 7 | 1 << 15);
    }

    /** "if there are none, but no row makes all together: the whole set of its COLOURS that are not paper" */
    private static void whyTellsAllButPaper() {
        DUE.is("six with paper", wanting(1, 2, 3, 4, 5, 6).why(1023), 126);
        CutBoard full = wanting(1, 2, 3, 4, 5, 6, 7, 8, 9, 10, 1, 2, 3, 4, 5, 6);
        DUE.is("ten without paper", full.why(1023), 2046);
        DUE.is("five together", wanting(1, 2, 3, 4, 5).why(1023), 0);
        CutBoard dead = wanting(1, 2);
        for (int colour = 1; colour < 16; colour++) {
            dead.table(0, colour, 15);
            dead.table(1, colour, 15);
        }
        DUE.is("each alone, but not both", dead.why(3), 6);
        DUE.is("one that is never made is told alone", withThird(dead).why(3), 1 << 9);
        CutBoard far = stairs(5, 7);
        DUE.is("by five and then one more", far.why(1 + 64), 1 << 5 | 1 << 7);
        DUE.is("no row indeed", far.fewest(1 + 64), CutBoard.NOT);
        DUE.is("by four and then one more", stairs(4, 7).why(1 + 64), 0);
    }

    private static CutBoard withThird(CutBoard x) {
        x.want(2, 9);
        return x;
    }

    private static boolean isRow(int v) {
        String digits = v <= 0 ? "" : Integer.toString(v, 11);
        return v >= 0 && digits.length() <= 5 && digits.indexOf('0') < 0;
    }

    /** "row: its INKS as digits of base 11, each INK and 1, the first one the highest; 0: an empty row (at most 5)" */
    private static void alikeTakesRowsOfAtMost5() {
        EDGES.taking("alike, row", CutBoard::new, (x, v) -> x.alike(v, 0, 1), -1500, 180000, PicturesEdgesTest::isRow);
        EDGES.taking("alike, other", CutBoard::new, (x, v) -> x.alike(0, v, 1), -1500, 180000, PicturesEdgesTest::isRow);
        EDGES.none("six inks", CutBoard::new, (x, v) -> x.alike(v, v, 0), 177156, 1771560, 11 * 161051);
        DUE.is("both are none", new CutBoard().alike(11, -1, 0), CutBoard.NONE);
    }

    /** "a set of COLOURS (bits 0 .. 65535)" */
    private static void alikeTakesColours0To65535() {
        EDGES.range("alike, colours", CutBoard::new, (x, v) -> x.alike(0, 0, v), 0, 65535);
        EDGES.range("alike, colours of full rows", CutBoard::new, (x, v) -> x.alike(161050, 161050, v), 0, 65535);
    }

    /** "ALIKE for a set of COLOURS if both make all of it" */
    private static void alikeForNoneAndForAll() {
        CutBoard x = new CutBoard();
        int five = Due.row(0, 1, 2, 3, 4);
        int back = Due.row(4, 3, 2, 1, 0);
        for (int colours = 0; colours < 128; colours++) {
            DUE.is("five either way, for " + colours, new CutBoard().alike(five, back, colours), colours < 64 ? 1 : 0);
        }
        DUE.is("no colours, unlike rows", x.alike(Due.row(0), Due.row(9), 0), 1);
        DUE.is("paper is of every row", x.alike(Due.row(0), Due.row(9), 1), 1);
        DUE.is("an empty row and another", x.alike(0, Due.row(9), 1), 1);
        DUE.is("an empty row makes no ink's colour", x.alike(0, Due.row(9), 1 << 10), 0);
        DUE.is("nor the other way", x.alike(Due.row(9), 0, 1 << 10), 0);
        DUE.is("colour 15", x.alike(five, back, 1 << 15), 0);
        x.table(9, 10, 15);
        DUE.is("colour 15 by two of ink 9", x.alike(Due.row(9, 9), Due.row(8, 9, 9), 1 << 15 | 1 << 10), 1);
        DUE.is("the last of five", x.alike(Due.row(1, 1, 1, 9, 9), Due.row(9, 9), 1 << 15), 1);
    }

    /** "The COLOUR of the first k INKS of a row on paper. NONE" */
    private static void madeTakesRowsOfAtMost5() {
        EDGES.taking("made, row", CutBoard::new, (x, v) -> x.made(v, 0), -1500, 180000, PicturesEdgesTest::isRow);
        EDGES.sweep("made, one ink", CutBoard::new, (x, v) -> x.made(v, 1), -300, 120,
            v -> v <= 0 || !isRow(v) ? CutBoard.NONE : v < 11 ? v : v / 11);
    }

    /** "(k 0 .. as many as it has)" */
    private static void madeTakes0ToAsManyAsItHas() {
        int told = 0;
        for (int n = 0; n <= 5; n++) {
            int row = told;
            int length = n;
            EDGES.sweep("made of " + n, CutBoard::new, (x, v) -> x.made(row, v), -70, 300,
                v -> v < 0 || v > length ? CutBoard.NONE : v == 0 ? 0 : 11 - v);
            told = told * 11 + 10 - n;
        }
        DUE.is("ink 0 five times", new CutBoard().made(Due.row(0, 0, 0, 0, 0), 5), 1);
        DUE.is("the least row of five is one", new CutBoard().made(16105, 5), 1);
        DUE.is("the greatest row", new CutBoard().made(161050, 5), 10);
    }

    /** "for n pulls, SLIP s (0 .. 999) and w wanted good ones (1 .. 100)", "NONE (n 0 .. 20)" */
    private static void beginTakesPullsSlipAndWanted() {
        EDGES.range("begin, n", CutBoard::new, (x, v) -> x.begin(v, 0, 1), 0, 20);
        EDGES.range("begin, n, many wanted", CutBoard::new, (x, v) -> x.begin(v, 1, 100), 0, 20);
        EDGES.range("begin, slip", CutBoard::new, (x, v) -> x.begin(1, v, 1), 0, 999);
        EDGES.range("begin, slip, no pulls", CutBoard::new, (x, v) -> x.begin(0, v, 100), 0, 999);
        EDGES.range("begin, w", CutBoard::new, (x, v) -> x.begin(0, 999, v), 1, 100);
        EDGES.range("begin, w, all pulls", CutBoard::new, (x, v) -> x.begin(20, 0, v), 1, 100);
        EDGES.none("NONE is named ahead of NOT", CutBoard::new, (x, v) -> x.begin(20, 999, v), 0, -1, 101);
        EDGES.none("NONE is named ahead of NOT, n", CutBoard::new, (x, v) -> x.begin(v, 999, 100), -1, 21, 22);
        EDGES.none("NONE is named ahead of NOT, slip", CutBoard::new, (x, v) -> x.begin(20, v, 100), -1, 1000, 1001);
    }

    private static int left(int m, int n, int slip) {
        int left = m;
        for (int k = 0; k < n; k++) {
            left = left * (1000 - slip) / 1000;
        }
        return left;
    }

    /** "the least m such that ..., the rest away after each pull, is w at least" */
    private static void beginIsTheLeast() {
        int asked = 0;
        CutBoard x = new CutBoard();
        for (int n = 0; n <= 20; n++) {
            for (int slip = 0; slip <= 999; slip++) {
                for (int w = 1; w <= 100; w++) {
                    if (asked++ % 500 == 0) {
                        x = new CutBoard();
                    }
                    int got = x.begin(n, slip, w);
                    boolean none = left(100000, n, slip) < w;
                    boolean least = got >= 1 && left(got, n, slip) >= w && left(got - 1, n, slip) < w;
                    if (none ? got != CutBoard.NOT : !least) {
                        DUE.is("begin(" + n + ", " + slip + ", " + w + ") is the least, but", got, none ? CutBoard.NOT : 0);
                    }
                }
            }
        }
        DUE.is("the rest away after each pull", x.begin(2, 500, 1), 4);
        DUE.is("and not at the end alone", x.begin(2, 100, 2), 4);
        DUE.is("no pull: as many as wanted", x.begin(0, 999, 1), 1);
        DUE.is("no slip: as many as wanted", x.begin(20, 0, 100), 100);
    }

    /** "NOT: above 100000" */
    private static void beginAbove100000() {
        CutBoard x = new CutBoard();
        DUE.is("one below", x.begin(14, 400, 78), 99999);
        DUE.is("just 100000", x.begin(1, 999, 100), 100000);
        // No n, s and w need 100001 to 100005: 100006 is the first that can be refused.
        DUE.is("100006", x.begin(8, 612, 51), CutBoard.NOT);
        DUE.is("just 100000 by two", x.begin(2, 990, 10), 100000);
        DUE.is("just above it", x.begin(2, 990, 11), CutBoard.NOT);
        DUE.is("just 100000 by five", x.begin(5, 900, 1), 100000);
        DUE.is("above it by six", x.begin(6, 900, 1), CutBoard.NOT);
        DUE.is("above it by five", x.begin(5, 900, 2), CutBoard.NOT);
        DUE.is("far above", x.begin(20, 999, 100), CutBoard.NOT);
        DUE.is("far above, one", x.begin(20, 999, 1), CutBoard.NOT);
        DUE.is("far above by two", x.begin(2, 999, 100), CutBoard.NOT);
    }

    private static CutBoard withPicture(int rows, int columns, int sheets, int wantedRows, int wantedColumns) {
        CutBoard x = Due.withSheets(rows, columns, sheets);
        x.wanted(wantedRows, wantedColumns);
        return x;
    }

    /** "NONE: no such SHEET, no WANTED" */
    private static void showsTakesSheetsThatAreReady() {
        for (int there : new int[] {1, 2, 20}) {
            EDGES.range("shows, of " + there, () -> withPicture(4, 4, there, 4, 4), CutBoard::shows, 0, there - 1);
            EDGES.none("no WANTED", () -> Due.withSheets(4, 4, there), CutBoard::shows, -1, 0, 1, there - 1, there);
        }
        EDGES.none("no sheet", () -> afterWanted(Due.withBoard(4, 4)), CutBoard::shows, -1, 0, 1, 19);
        EDGES.none("no board", () -> afterWanted(new CutBoard()), CutBoard::shows, -1, 0, 1, 19);
    }

    private static CutBoard afterWanted(CutBoard x) {
        x.wanted(1, 1);
        return x;
    }

    /** "or THE BOARD is smaller" */
    private static void showsOnABoardThatIsNotSmaller() {
        for (int rows = 1; rows <= 8; rows++) {
            for (int columns = 1; columns <= 8; columns++) {
                for (int cell = 0; cell < 16; cell++) {
                    int r = cell / 4 + 1;
                    int c = cell % 4 + 1;
                    int got = withPicture(rows, columns, 1, r, c).shows(0);
                    DUE.is(r + " by " + c + " on " + rows + " by " + columns, got,
                        r <= rows && c <= columns ? 1 : CutBoard.NONE);
                }
            }
        }
    }

    /** "1 if a SHEET shows WANTED in its first ROWS and COLUMNS (the rest paper), else 0" */
    private static void showsTheRestPaper() {
        for (int cell = 0; cell < 64; cell++) {
            int row = cell / 8;
            int column = cell % 8;
            CutBoard x = withPicture(8, 8, 1, 4, 4);
            x.saw(0, Due.area(row, row, column, column));
            x.piece(0, 0);
            x.pull(0, 6);
            DUE.is("one cell has ink: " + cell, x.shows(0), 0);
            if (row < 4 && column < 4) {
                x.want(4 * row + column, 7);
                DUE.is("and it is wanted: " + cell, x.shows(0), 1);
                x.want(4 * row + column, 8);
                DUE.is("another colour is wanted", x.shows(0), 0);
            }
        }
        DUE.is("all paper", withPicture(8, 8, 20, 1, 1).shows(19), 1);
    }

    /** "How many: 0 PIECES .. 6 CELLS that were cut. NONE." */
    private static void countTakesWhat0To6() {
        EDGES.range("count of a new object", CutBoard::new, CutBoard::count, 0, 6);
        EDGES.range("count", () -> Due.withSheets(8, 8, 20), CutBoard::count, 0, 6);
    }

    private static void countAtTheLimits() {
        CutBoard x = Due.withSheets(8, 8, 20);
        for (int row = 0; row < 8; row++) {
            x.saw(0, Due.area(row, row, 0, 7));
        }
        for (int k = 0; k < 101; k++) {
            x.minutes(1000);
        }
        x.minutes(999);
        for (int k = 0; k < 201; k++) {
            x.pull(19, 0);
        }
        int[] due = {8, 20, 20, 200, 99999, 64, 0};
        for (int what = 0; what < 7; what++) {
            DUE.is("the most of " + what, x.count(what), due[what]);
        }
        x.piece(7, 0);
        DUE.is("those that are out stand, too", x.count(5), 64);
        x.piece(7, 1);
        x.cut(Due.area(0, 7, 0, 7));
        DUE.is("none stands", x.count(5), 0);
        DUE.is("all were cut", x.count(6), 64);
        CutBoard spoiled = Due.withSheets(1, 1, 20);
        spoiled.against(0, 0, 1);
        spoiled.pull(19, 0);
        spoiled.pull(19, 0);
        DUE.is("no good one", spoiled.count(2), 0);
        DUE.is("but twenty sheets", spoiled.count(1), 20);
    }
}
