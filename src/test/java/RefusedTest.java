import java.util.ArrayList;
import java.util.List;
import java.util.function.Consumer;
import java.util.function.ToIntFunction;

/**
 * "What is refused changes nothing": in each of several states, each refused call is made on one of two twins;
 * then both answer alike whatever can be asked of them. No object is asked more than 512 times, so what can be
 * asked is shared out among several pairs of twins.
 */
public final class RefusedTest {
    private static final Due DUE = new Due();
    private static final int NONE = CutBoard.NONE;
    private static final int FULL = CutBoard.FULL;
    private static final int STATE = CutBoard.STATE;
    private static final int NOT = CutBoard.NOT;
    private static final int MIN = Integer.MIN_VALUE;
    private static final int MAX = Integer.MAX_VALUE;
    private static final int SHEETS_ASKED = 4;
    private static final int PARTS = 9 + SHEETS_ASKED;

    /** The call that is refused, and its answer. */
    private static final class Refused {
        final String name;
        final int due;
        final ToIntFunction<CutBoard> call;

        Refused(String name, int due, ToIntFunction<CutBoard> call) {
            this.name = name;
            this.due = due;
            this.call = call;
        }
    }

    public static void main(String[] args) {
        compare("new", x -> { }, withoutBoard());
        compare("a picture alone", RefusedTest::pictureAlone, withoutBoard());
        compare("in use", RefusedTest::inUse, inUseRefused());
        compare("all sheets", RefusedTest::allSheets, sheetsFull());
        compare("all pieces", RefusedTest::allPieces, piecesFull());
        compare("a full book", RefusedTest::fullBook, bookFull());
        compare("the last minute", RefusedTest::lastMinute, beyondTheLastMinute());
        DUE.end();
    }

    // ---- the states

    private static void pictureAlone(CutBoard x) {
        x.wanted(2, 3);
        x.want(5, 4);
        x.fewest(1023);
        x.lots(0, 450);
        x.lots(1, -9);
    }

    private static void inUse(CutBoard x) {
        x.board(4, 6);
        x.sheets(9);
        x.table(0, 0, 3);
        x.table(1, 3, 5);
        x.drying(2, 999);
        x.against(0, 1, 1);
        x.against(2, 2, 1);
        x.mixed(3, 4, 7);
        x.cut(Due.area(0, 1, 0, 0));
        x.saw(0, Due.area(2, 3, 0, 2));
        x.saw(0, Due.area(0, 0, 5, 5));
        x.pull(5, 0);
        x.minutes(7);
        x.pull(101, 1);
        x.blend(202, 342);
        x.pull(-1, 8);
        x.piece(1, 0);
        x.wanted(2, 3);
        x.want(0, 3);
        x.want(5, 5);
        x.fewest(7);
        x.want(1, 12);
        x.lots(0, 450);
        x.lots(1, 77);
    }

    private static void allSheets(CutBoard x) {
        inUse(x);
        x.sheets(11);
    }

    private static void allPieces(CutBoard x) {
        inUse(x);
        for (int column = 0; column < 5; column++) {
            x.saw(0, Due.area(0, 1, column, column));
        }
    }

    private static void fullBook(CutBoard x) {
        inUse(x);
        for (int k = x.count(3); k < 200; k++) {
            x.pull(-1, k % 10);
        }
    }

    private static void lastMinute(CutBoard x) {
        inUse(x);
        for (int k = 0; k < 99; k++) {
            x.minutes(1000);
        }
        x.minutes(980);
    }

    // ---- what is refused in them

    private static void add(List<Refused> list, String name, int due, ToIntFunction<CutBoard> call) {
        list.add(new Refused(name, due, call));
    }

    private static List<Refused> withoutBoard() {
        List<Refused> list = new ArrayList<>();
        add(list, "board(0, 1)", NONE, x -> x.board(0, 1));
        add(list, "board(8, 9)", NONE, x -> x.board(8, 9));
        add(list, "cut(0)", NONE, x -> x.cut(0));
        add(list, "cut(511)", NONE, x -> x.cut(511));
        add(list, "saw(0, 0)", NONE, x -> x.saw(0, 0));
        add(list, "piece(0, 0)", NONE, x -> x.piece(0, 0));
        add(list, "piece(0, 1)", NONE, x -> x.piece(0, 1));
        add(list, "cell(0, 0)", NONE, x -> x.cell(0, 0));
        add(list, "joined(0, 0)", NONE, x -> x.joined(0, 0));
        add(list, "sheets(1)", NONE, x -> x.sheets(1));
        add(list, "sheets(20)", NONE, x -> x.sheets(20));
        add(list, "pull(-1, 0)", NONE, x -> x.pull(-1, 0));
        add(list, "pull(0, 0)", NONE, x -> x.pull(0, 0));
        add(list, "blend(-1, 120)", NONE, x -> x.blend(-1, 120));
        add(list, "blend(0, 120)", NONE, x -> x.blend(0, 120));
        add(list, "free(0, 0)", NONE, x -> x.free(0, 0));
        add(list, "shows(0)", NONE, x -> x.shows(0));
        add(list, "wanted(5, 1)", NONE, x -> x.wanted(5, 1));
        add(list, "want(15, 1)", NONE, x -> x.want(15, 1));
        add(list, "fewest(1024)", NONE, x -> x.fewest(1024));
        return list;
    }

    private static List<Refused> inUseRefused() {
        List<Refused> list = new ArrayList<>();
        toldOfInks(list);
        toldOfTheBoard(list);
        toldOfSheets(list);
        toldOfPictures(list);
        return list;
    }

    private static void toldOfInks(List<Refused> list) {
        for (int bad : new int[] {-1, 16, MIN, MAX}) {
            add(list, "table, ink " + bad, NONE, x -> x.table(bad, 0, 9));
            add(list, "table, colour " + bad, NONE, x -> x.table(0, bad, 9));
            add(list, "table, makes " + bad, NONE, x -> x.table(0, 0, bad));
            add(list, "drying, ink " + bad, NONE, x -> x.drying(bad, 9));
            add(list, "against, lies " + bad, NONE, x -> x.against(bad, 0, 1));
            add(list, "against, laid " + bad, NONE, x -> x.against(0, bad, 1));
            add(list, "against, is " + bad, NONE, x -> x.against(0, 1, bad));
            add(list, "mixed, p " + bad, NONE, x -> x.mixed(bad, 4, 9));
            add(list, "mixed, q " + bad, NONE, x -> x.mixed(3, bad, 9));
            add(list, "mixed, ink " + bad, NONE, x -> x.mixed(3, 4, bad));
            add(list, "lots, what " + bad, NONE, x -> x.lots(bad, 9));
        }
        add(list, "table(10, 0, 9)", NONE, x -> x.table(10, 0, 9));
        add(list, "drying(10, 9)", NONE, x -> x.drying(10, 9));
        add(list, "drying(2, 1000)", NONE, x -> x.drying(2, 1000));
        add(list, "drying(2, -1)", NONE, x -> x.drying(2, -1));
        add(list, "against(10, 0, 1)", NONE, x -> x.against(10, 0, 1));
        add(list, "against(0, 10, 1)", NONE, x -> x.against(0, 10, 1));
        add(list, "against(0, 1, 2)", NONE, x -> x.against(0, 1, 2));
        add(list, "mixed(4, 4, 9)", NONE, x -> x.mixed(4, 4, 9));
        add(list, "mixed(3, 4, 10)", NONE, x -> x.mixed(3, 4, 10));
        add(list, "mixed(10, 4, 9)", NONE, x -> x.mixed(10, 4, 9));
        add(list, "lots(2, 9)", NONE, x -> x.lots(2, 9));
        add(list, "lots(0, 1000)", NONE, x -> x.lots(0, 1000));
        add(list, "lots(0, -1)", NONE, x -> x.lots(0, -1));
        add(list, "lots(0, MIN)", NONE, x -> x.lots(0, MIN));
        for (int bad : new int[] {0, -1, 1001, MIN, MAX}) {
            add(list, "minutes " + bad, NONE, x -> x.minutes(bad));
        }
    }

    private static void toldOfTheBoard(List<Refused> list) {
        add(list, "board(8, 8)", STATE, x -> x.board(8, 8));
        add(list, "board(4, 6)", STATE, x -> x.board(4, 6));
        add(list, "board(9, 1)", NONE, x -> x.board(9, 1));
        for (int bad : new int[] {-1, -512, 4096, MIN, MAX, Due.area(0, 4, 0, 0), Due.area(0, 0, 0, 6),
            Due.area(1, 0, 0, 0), Due.area(0, 0, 3, 2)}) {
            add(list, "cut " + bad, NONE, x -> x.cut(bad));
            add(list, "saw " + bad, NONE, x -> x.saw(0, bad));
        }
        add(list, "cut one that is out", STATE, x -> x.cut(Due.area(2, 2, 0, 0)));
        add(list, "cut all", STATE, x -> x.cut(Due.area(0, 3, 0, 5)));
        add(list, "cut, the last cell is out", STATE, x -> x.cut(Due.area(0, 2, 2, 2)));
        for (int bad : new int[] {-1, 3, 7, 8, MIN, MAX}) {
            add(list, "saw, piece " + bad, NONE, x -> x.saw(bad, Due.area(0, 0, 0, 0)));
            add(list, "piece " + bad, NONE, x -> x.piece(bad, 0));
        }
        add(list, "saw all of it", NOT, x -> x.saw(0, Due.area(0, 3, 0, 5)));
        add(list, "saw all of piece 2", NOT, x -> x.saw(2, Due.area(0, 0, 5, 5)));
        add(list, "saw none of it", NOT, x -> x.saw(0, Due.area(2, 3, 0, 2)));
        add(list, "piece is 2", NONE, x -> x.piece(1, 2));
        add(list, "piece is -1", NONE, x -> x.piece(0, -1));
        add(list, "cell(64, 0)", NONE, x -> x.cell(64, 0));
        add(list, "cell(0, 2)", NONE, x -> x.cell(0, 2));
        add(list, "islands(3)", NONE, x -> x.islands(3));
        add(list, "joined(0, 6)", NONE, x -> x.joined(0, 6));
    }

    private static void toldOfSheets(List<Refused> list) {
        for (int bad : new int[] {0, -1, 21, MIN, MAX}) {
            add(list, "sheets " + bad, NONE, x -> x.sheets(bad));
        }
        add(list, "sheets(12)", FULL, x -> x.sheets(12));
        add(list, "sheets(20)", FULL, x -> x.sheets(20));
        for (int bad : new int[] {-2, 9, 19, 100, 909, 10000, MIN, MAX}) {
            add(list, "pull " + bad, NONE, x -> x.pull(bad, 0));
            add(list, "blend " + bad, NONE, x -> x.blend(bad, 120));
            add(list, "free " + bad, NONE, x -> x.free(bad, 0));
        }
        for (int bad : new int[] {-1, 10, MIN, MAX}) {
            add(list, "pull, ink " + bad, NONE, x -> x.pull(8, bad));
            add(list, "proof, ink " + bad, NONE, x -> x.pull(-1, bad));
            add(list, "free, ink " + bad, NONE, x -> x.free(8, bad));
        }
        for (int bad : new int[] {-1, 110, 126, 129, 1000, MIN, MAX}) {
            add(list, "blend, inks " + bad, NONE, x -> x.blend(8, bad));
            add(list, "blended proof, inks " + bad, NONE, x -> x.blend(-1, bad));
        }
        add(list, "colour(9, 0)", NONE, x -> x.colour(9, 0));
        add(list, "colour(0, 6)", NONE, x -> x.colour(0, 6));
        add(list, "led(0, 0, 3)", NONE, x -> x.led(0, 0, 3));
        add(list, "good(9)", NONE, x -> x.good(9));
        add(list, "book(4, 0)", NONE, x -> x.book(4, 0));
        add(list, "book(0, 5)", NONE, x -> x.book(0, 5));
    }

    private static void toldOfPictures(List<Refused> list) {
        for (int bad : new int[] {0, -1, 5, MIN, MAX}) {
            add(list, "wanted, rows " + bad, NONE, x -> x.wanted(bad, 2));
            add(list, "wanted, columns " + bad, NONE, x -> x.wanted(2, bad));
        }
        for (int bad : new int[] {-1, 3, 7, 8, 16, MIN, MAX}) {
            add(list, "want, cell " + bad, NONE, x -> x.want(bad, 1));
        }
        for (int bad : new int[] {-1, 16, MIN, MAX}) {
            add(list, "want, colour " + bad, NONE, x -> x.want(0, bad));
        }
        for (int bad : new int[] {-1, 1024, MIN, MAX}) {
            add(list, "fewest " + bad, NONE, x -> x.fewest(bad));
            add(list, "why " + bad, NONE, x -> x.why(bad));
        }
        add(list, "fewest(1023)", NOT, x -> x.fewest(1023));
        add(list, "fewest(0)", NOT, x -> x.fewest(0));
        add(list, "order(2)", NONE, x -> x.order(2));
        add(list, "place(3)", NONE, x -> x.place(3));
        add(list, "alike(11, 0, 1)", NONE, x -> x.alike(11, 0, 1));
        add(list, "made(1, 2)", NONE, x -> x.made(1, 2));
        add(list, "begin(21, 0, 1)", NONE, x -> x.begin(21, 0, 1));
        add(list, "begin(20, 999, 1)", NOT, x -> x.begin(20, 999, 1));
        add(list, "shows(9)", NONE, x -> x.shows(9));
        add(list, "count(7)", NONE, x -> x.count(7));
    }

    private static List<Refused> sheetsFull() {
        List<Refused> list = new ArrayList<>();
        add(list, "sheets(1)", FULL, x -> x.sheets(1));
        add(list, "sheets(20)", FULL, x -> x.sheets(20));
        add(list, "sheets(0)", NONE, x -> x.sheets(0));
        add(list, "sheets(21)", NONE, x -> x.sheets(21));
        add(list, "pull(20, 0)", NONE, x -> x.pull(20, 0));
        add(list, "pull(2020, 0)", NONE, x -> x.pull(2020, 0));
        return list;
    }

    private static List<Refused> piecesFull() {
        List<Refused> list = new ArrayList<>();
        for (int piece : new int[] {0, 1}) {
            add(list, "saw of piece " + piece, FULL, x -> x.saw(piece, Due.area(2, 2, 0, 5)));
            add(list, "saw none or all of piece " + piece, NOT, x -> x.saw(piece, Due.area(0, 3, 0, 5)));
        }
        add(list, "saw of a piece of two cells", FULL, x -> x.saw(3, Due.area(0, 0, 0, 5)));
        add(list, "saw(8, ..)", NONE, x -> x.saw(8, Due.area(2, 2, 0, 5)));
        add(list, "piece(8, 0)", NONE, x -> x.piece(8, 0));
        return list;
    }

    private static List<Refused> bookFull() {
        List<Refused> list = new ArrayList<>();
        add(list, "pull", FULL, x -> x.pull(8, 0));
        add(list, "proof", FULL, x -> x.pull(-1, 0));
        add(list, "blend", FULL, x -> x.blend(8, 120));
        add(list, "blended proof", FULL, x -> x.blend(-1, 120));
        add(list, "pull, ink 10", NONE, x -> x.pull(8, 10));
        add(list, "blend, no column", NONE, x -> x.blend(8, 126));
        return list;
    }

    private static List<Refused> beyondTheLastMinute() {
        List<Refused> list = new ArrayList<>();
        add(list, "minutes(13)", NONE, x -> x.minutes(13));
        add(list, "minutes(1000)", NONE, x -> x.minutes(1000));
        add(list, "minutes(0)", NONE, x -> x.minutes(0));
        return list;
    }

    // ---- what can be asked of twins

    private static void compare(String state, Consumer<CutBoard> reach, List<Refused> refused) {
        for (Refused one : refused) {
            for (int part = 0; part < PARTS; part++) {
                CutBoard x = new CutBoard();
                CutBoard twin = new CutBoard();
                reach.accept(x);
                reach.accept(twin);
                DUE.is(state + ": " + one.name, one.call.applyAsInt(x), one.due);
                List<Integer> got = answers(x, part);
                List<Integer> due = answers(twin, part);
                for (int k = 0; k < due.size(); k++) {
                    DUE.is(state + ": after " + one.name + " part " + part + " answer " + k, got.get(k), due.get(k));
                }
            }
        }
    }

    private static List<Integer> answers(CutBoard x, int part) {
        List<Integer> list = new ArrayList<>();
        switch (part) {
            case 0: tableDryingAndMixed(x, list); break;
            case 1: againstAndMixed(x, list); break;
            case 2: boardAndCounts(x, list); break;
            case 3: lots(x, list); break;
            case 4: picture(x, list); break;
            case 5: book(x, list, 0, 4); break;
            case 6: book(x, list, 2, 3); break;
            case 7: freeAndShows(x, list); break;
            case 8: goOn(x, list); break;
            default: sheet(x, list, part - 9); break;
        }
        return list;
    }

    private static void tableDryingAndMixed(CutBoard x, List<Integer> list) {
        for (int ink = 0; ink < 10; ink++) {
            for (int colour = 0; colour < 16; colour++) {
                list.add(x.table(ink, colour, 0));
            }
            list.add(x.drying(ink, 0));
            for (int lesser = 0; lesser < ink; lesser++) {
                list.add(x.mixed(ink, lesser, 0));
            }
        }
    }

    private static void againstAndMixed(CutBoard x, List<Integer> list) {
        for (int p = 0; p < 10; p++) {
            for (int q = 0; q < 10; q++) {
                list.add(x.against(p, q, 0));
                if (p < q) {
                    list.add(x.mixed(p, q, 0));
                }
            }
        }
    }

    private static void boardAndCounts(CutBoard x, List<Integer> list) {
        for (int what = 0; what <= 6; what++) {
            list.add(x.count(what));
        }
        for (int cell = 0; cell < 64; cell++) {
            list.add(x.cell(cell, 0));
            list.add(x.cell(cell, 1));
        }
        for (int piece = 0; piece < 8; piece++) {
            list.add(x.islands(0));
            list.add(x.islands(1));
            list.add(x.islands(2));
            list.add(x.piece(piece, 0));
        }
        list.add(x.board(3, 3));
    }

    /** Who is spoiled by register tells z and SLIP. */
    private static void lots(CutBoard x, List<Integer> list) {
        x.board(2, 2);
        x.sheets(9);
        for (int k = 0; k < 3; k++) {
            list.add(x.pull(8, 0));
            for (int sheet = 0; sheet < 20; sheet++) {
                list.add(x.good(sheet));
            }
        }
    }

    private static void picture(CutBoard x, List<Integer> list) {
        for (int k = 0; k < 6; k++) {
            list.add(x.order(k));
        }
        for (int cell = 0; cell < 16; cell++) {
            list.add(x.place(cell));
            list.add(x.want(cell, 0));
        }
    }

    private static void book(CutBoard x, List<Integer> list, int first, int second) {
        // A full book took nearly 200 calls already.
        for (int pull = 0; pull < 8; pull++) {
            list.add(x.book(pull, 1));
        }
        for (int pull = 80; pull < 201; pull++) {
            list.add(x.book(pull, first));
            list.add(x.book(pull, second));
        }
        for (int pull = 0; pull < 8; pull++) {
            list.add(x.book(pull, first));
            list.add(x.book(pull, second));
        }
    }

    private static void freeAndShows(CutBoard x, List<Integer> list) {
        for (int ink = 0; ink < 10; ink++) {
            for (int sheet = 0; sheet < 10; sheet++) {
                list.add(x.free(101 * sheet, ink));
            }
        }
        for (int sheet = 0; sheet < 20; sheet++) {
            list.add(x.good(sheet));
            list.add(x.shows(sheet));
        }
    }

    /** What is done next goes on alike. */
    private static void goOn(CutBoard x, List<Integer> list) {
        list.add(x.board(3, 5));
        list.add(x.sheets(2));
        list.add(x.minutes(3));
        list.add(x.blend(8, 341));
        list.add(x.pull(1, 2));
        list.add(x.saw(0, Due.area(0, 0, 0, 0)));
        list.add(x.saw(0, Due.area(2, 2, 0, 4)));
        list.add(x.cut(Due.area(0, 1, 1, 2)));
        list.add(x.pull(8, 1));
        list.add(x.wanted(2, 2));
        list.add(x.want(1, 2));
        list.add(x.fewest(1023));
        list.add(x.why(1));
        for (int cell = 0; cell < 64; cell++) {
            list.add(x.colour(2, cell));
            list.add(x.led(8, cell, 0));
        }
        for (int what = 0; what <= 6; what++) {
            list.add(x.count(what));
        }
    }

    private static void sheet(CutBoard x, List<Integer> list, int sheet) {
        for (int cell = 0; cell < 64; cell++) {
            list.add(x.colour(sheet, cell));
            list.add(x.led(sheet, cell, 0));
            list.add(x.led(sheet, cell, 1));
            list.add(x.led(sheet, cell, 2));
        }
    }
}
