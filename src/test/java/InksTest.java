/** Promises 3 to 8: what is told of inks, lots and minutes. */
public final class InksTest {
    private static final Due DUE = new Due();
    private static final int MIN = Integer.MIN_VALUE;
    private static final int MAX = Integer.MAX_VALUE;

    public static void main(String[] args) {
        promise3();
        promise4();
        promise5();
        promise6();
        promise7();
        promise8();
        DUE.end();
    }

    private static void promise3() {
        CutBoard x = new CutBoard();
        for (int ink = 0; ink < 10; ink++) {
            for (int colour = 0; colour < 16; colour++) {
                DUE.is("3 at first", x.table(ink, colour, 15 - ink), ink + 1);
                DUE.is("3 again", x.table(ink, colour, 15 - ink), 15 - ink);
            }
        }
        DUE.is("3 colour 0 is made, too", x.table(0, 0, 0), 15);
        DUE.is("3 was 0", x.table(0, 0, 15), 0);
        DUE.is("3 the neighbour stays", x.table(0, 1, 15), 15);
        for (int bad : new int[] {-1, MIN, MAX}) {
            DUE.is("3 no ink " + bad, x.table(bad, 0, 0), CutBoard.NONE);
            DUE.is("3 no colour " + bad, x.table(0, bad, 0), CutBoard.NONE);
            DUE.is("3 makes no colour " + bad, x.table(0, 0, bad), CutBoard.NONE);
        }
        DUE.is("3 ink 10", x.table(10, 0, 0), CutBoard.NONE);
        DUE.is("3 colour 16", x.table(0, 16, 0), CutBoard.NONE);
        DUE.is("3 makes 16", x.table(0, 0, 16), CutBoard.NONE);
        DUE.is("3 the refused changed nothing", x.table(0, 0, 1), 15);
    }

    private static void promise4() {
        CutBoard x = new CutBoard();
        for (int ink = 0; ink < 10; ink++) {
            DUE.is("4 at first", x.drying(ink, 90 + ink), 60);
        }
        for (int ink = 0; ink < 10; ink++) {
            DUE.is("4 told", x.drying(ink, 0), 90 + ink);
        }
        DUE.is("4 least was", x.drying(0, 999), 0);
        DUE.is("4 1000", x.drying(0, 1000), CutBoard.NONE);
        DUE.is("4 -1", x.drying(0, -1), CutBoard.NONE);
        DUE.is("4 ink 10", x.drying(10, 5), CutBoard.NONE);
        DUE.is("4 ink -1", x.drying(-1, 5), CutBoard.NONE);
        DUE.is("4 ink MIN", x.drying(MIN, 5), CutBoard.NONE);
        DUE.is("4 most was", x.drying(0, 1), 999);
    }

    private static void promise5() {
        CutBoard x = new CutBoard();
        DUE.is("5 at first", x.against(2, 7, 1), 0);
        DUE.is("5 told", x.against(2, 7, 1), 1);
        DUE.is("5 the other way is another", x.against(7, 2, 0), 0);
        DUE.is("5 taken back", x.against(2, 7, 0), 1);
        DUE.is("5 was taken back", x.against(2, 7, 0), 0);
        DUE.is("5 on itself", x.against(9, 9, 1), 0);
        DUE.is("5 on itself, told", x.against(9, 9, 1), 1);
        DUE.is("5 is 2", x.against(2, 7, 2), CutBoard.NONE);
        DUE.is("5 is -1", x.against(2, 7, -1), CutBoard.NONE);
        DUE.is("5 lies 10", x.against(10, 7, 1), CutBoard.NONE);
        DUE.is("5 lies -1", x.against(-1, 7, 1), CutBoard.NONE);
        DUE.is("5 laid 10", x.against(2, 10, 1), CutBoard.NONE);
        DUE.is("5 laid -1", x.against(2, -1, 1), CutBoard.NONE);
        DUE.is("5 the refused changed nothing", x.against(2, 7, 0), 0);
    }

    private static void promise6() {
        CutBoard x = new CutBoard();
        DUE.is("6 at first", x.mixed(3, 4, 7), 0);
        DUE.is("6 either way", x.mixed(4, 3, 9), 7);
        DUE.is("6 and back", x.mixed(3, 4, 0), 9);
        DUE.is("6 another pair", x.mixed(3, 5, 1), 0);
        DUE.is("6 alike", x.mixed(4, 4, 1), CutBoard.NONE);
        DUE.is("6 p 10", x.mixed(10, 4, 1), CutBoard.NONE);
        DUE.is("6 q 10", x.mixed(4, 10, 1), CutBoard.NONE);
        DUE.is("6 p -1", x.mixed(-1, 4, 1), CutBoard.NONE);
        DUE.is("6 q -1", x.mixed(4, -1, 1), CutBoard.NONE);
        DUE.is("6 ink 10", x.mixed(3, 4, 10), CutBoard.NONE);
        DUE.is("6 ink -1", x.mixed(3, 4, -1), CutBoard.NONE);
        DUE.is("6 the refused changed nothing", x.mixed(4, 3, 2), 0);
    }

    private static void promise7() {
        CutBoard x = new CutBoard();
        DUE.is("7 slip 0", x.lots(0, 0), 1);
        DUE.is("7 slip 999", x.lots(0, 999), 1);
        DUE.is("7 slip 1000", x.lots(0, 1000), CutBoard.NONE);
        DUE.is("7 slip -1", x.lots(0, -1), CutBoard.NONE);
        for (int z : new int[] {0, -1, 1, MIN, MAX}) {
            DUE.is("7 z " + z, x.lots(1, z), 1);
        }
        DUE.is("7 what 2", x.lots(2, 0), CutBoard.NONE);
        DUE.is("7 what -1", x.lots(-1, 0), CutBoard.NONE);
        atFirst();
        theThrows(MIN, 333);
        theThrows(MAX, 500);
        theThrows(77, 999);
        theThrows(77, 1);
        theThrows(0, 49);
        theThrows(0, 48);
    }

    private static void atFirst() {
        CutBoard x = Due.withSheets(1, 1, 1);
        x.lots(1, 7663);
        x.pull(0, 0);
        DUE.is("7 slip is 0 at first, and a lot of 0 is not less", x.good(0), 1);
        // The document doesn't say what z is at first; the program takes 0, whose first lot is 48.
        CutBoard below = Due.withSheets(1, 1, 1);
        below.lots(0, 48);
        below.pull(0, 0);
        DUE.is("7 z at first, slip 48", below.good(0), 1);
        CutBoard above = Due.withSheets(1, 1, 1);
        above.lots(0, 49);
        above.pull(0, 0);
        DUE.is("7 z at first, slip 49", above.good(0), 0);
    }

    /** Each pull throws once for each good sheet, by the document's own sum. */
    private static void theThrows(int z, int slip) {
        CutBoard x = Due.withSheets(1, 1, 20);
        x.lots(0, slip);
        x.lots(1, z);
        boolean[] off = new boolean[20];
        int now = z;
        for (int pull = 0; pull < 6; pull++) {
            int spoiled = 0;
            for (int sheet = 0; sheet < 20; sheet++) {
                if (!off[sheet]) {
                    now = now * 1103515245 + 12345;
                    off[sheet] = (now >>> 8) % 1000 < slip;
                    spoiled += off[sheet] ? 1 : 0;
                }
            }
            DUE.is("7 the pull is kept", x.pull(19, pull), pull);
            DUE.is("7 spoiled by z " + z, x.book(pull, 4), spoiled);
            for (int sheet = 0; sheet < 20; sheet++) {
                DUE.is("7 sheet " + sheet + " by z " + z, x.good(sheet), off[sheet] ? 0 : 1);
            }
        }
    }

    private static void promise8() {
        CutBoard x = new CutBoard();
        DUE.is("8 the first minute", x.minutes(1), 1);
        DUE.is("8 0", x.minutes(0), CutBoard.NONE);
        DUE.is("8 -1", x.minutes(-1), CutBoard.NONE);
        DUE.is("8 1001", x.minutes(1001), CutBoard.NONE);
        DUE.is("8 MAX", x.minutes(MAX), CutBoard.NONE);
        DUE.is("8 MIN", x.minutes(MIN), CutBoard.NONE);
        for (int k = 1; k <= 99; k++) {
            DUE.is("8 on", x.minutes(1000), 1000 * k + 1);
        }
        DUE.is("8 beyond the last", x.minutes(999), CutBoard.NONE);
        DUE.is("8 to the last", x.minutes(998), 99999);
        DUE.is("8 behind the last", x.minutes(1), CutBoard.NONE);
        DUE.is("8 it stays", x.count(4), 99999);
    }
}
