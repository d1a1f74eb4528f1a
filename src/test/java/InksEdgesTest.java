/** The boundary cases that the document names for promises 3 to 8, a test for each sentence. */
public final class InksEdgesTest {
    private static final Due DUE = new Due();
    private static final Edges EDGES = new Edges(DUE);

    public static void main(String[] args) {
        tableTakesInks0To9();
        tableTakesColours0To15();
        tableAtFirst();
        dryingTakesInks0To9();
        drying0To999And60AtFirst();
        wetInAMinuteBelowThat();
        againstTakesInks0To9();
        against1Or0And0AtFirst();
        mixedTakesTwoUnlikeInks();
        mixed0AtFirstEitherWayTheSame();
        lotsTakesWhat0And1();
        slip0To999And0AtFirst();
        zIsAnyInt();
        zWrapsAroundAsAnInt();
        lessThanSlip();
        minutes1To1000();
        minuteAtMost99999();
        DUE.end();
    }

    /** "INKS 0 .. 9" */
    private static void tableTakesInks0To9() {
        for (int colour : new int[] {0, 15}) {
            EDGES.range("table, ink", CutBoard::new, (x, v) -> x.table(v, colour, 0), 0, 9);
            EDGES.range("table, ink of the last", CutBoard::new, (x, v) -> x.table(v, colour, 15), 0, 9);
        }
    }

    /** "COLOURS 0 .. 15; 0 is paper" */
    private static void tableTakesColours0To15() {
        for (int ink : new int[] {0, 9}) {
            EDGES.range("table, colour", CutBoard::new, (x, v) -> x.table(ink, v, 0), 0, 15);
            EDGES.range("table, makes", CutBoard::new, (x, v) -> x.table(ink, 15, v), 0, 15);
        }
        CutBoard x = Due.withSheets(1, 1, 1);
        x.table(9, 0, 15);
        x.table(9, 15, 0);
        x.pull(0, 9);
        DUE.is("the last colour of paper", x.colour(0, 0), 15);
        x.pull(0, 9);
        DUE.is("paper of the last colour", x.colour(0, 0), 0);
    }

    /** "at first each INK i makes COLOUR i + 1 of every COLOUR", "What an INK makes ... becomes this: what it was" */
    private static void tableAtFirst() {
        CutBoard x = new CutBoard();
        for (int ink = 0; ink < 10; ink++) {
            for (int colour = 0; colour < 16; colour++) {
                DUE.is("at first", x.table(ink, colour, (ink + colour) % 16), ink + 1);
            }
        }
        for (int ink = 0; ink < 10; ink++) {
            for (int colour = 0; colour < 16; colour++) {
                DUE.is("what it was told", x.table(ink, colour, 0), (ink + colour) % 16);
            }
        }
    }

    private static void dryingTakesInks0To9() {
        EDGES.range("drying, ink", CutBoard::new, (x, v) -> x.drying(v, 0), 0, 9);
        EDGES.range("drying, ink, the longest", CutBoard::new, (x, v) -> x.drying(v, 999), 0, 9);
    }

    /** "DRYING of an INK: minutes (0 .. 999; 60 at first)" */
    private static void drying0To999And60AtFirst() {
        for (int ink : new int[] {0, 9}) {
            EDGES.range("drying, minutes", CutBoard::new, (x, v) -> x.drying(ink, v), 0, 999);
        }
        CutBoard x = new CutBoard();
        for (int ink = 0; ink < 10; ink++) {
            DUE.is("60 at first", x.drying(ink, ink % 2 == 0 ? 0 : 999), 60);
        }
        for (int ink = 0; ink < 10; ink++) {
            DUE.is("refused", x.drying(ink, 1000), CutBoard.NONE);
            DUE.is("refused, below", x.drying(ink, -1), CutBoard.NONE);
            DUE.is("it stays", x.drying(ink, 5), ink % 2 == 0 ? 0 : 999);
        }
    }

    /** "WET then till MINUTE and DRYING of this INK (in a MINUTE below that)" */
    private static void wetInAMinuteBelowThat() {
        int[][] driesAndPasses = {{0, 0, 1}, {0, 1, 1}, {1, 0, 0}, {1, 1, 1}, {2, 1, 0}, {60, 59, 0}, {60, 60, 1},
            {60, 61, 1}, {998, 998, 1}, {999, 998, 0}, {999, 999, 1}, {999, 1000, 1}};
        for (int[] told : driesAndPasses) {
            for (int begun : new int[] {0, 1, 500}) {
                CutBoard x = Due.withSheets(1, 1, 1);
                x.against(4, 5, 1);
                x.drying(4, told[0]);
                pass(x, begun);
                x.pull(0, 4);
                pass(x, told[1]);
                x.pull(0, 5);
                DUE.is("good, drying " + told[0] + " after " + told[1], x.good(0), told[2]);
            }
        }
    }

    private static void pass(CutBoard x, int minutes) {
        if (minutes > 0) {
            x.minutes(minutes);
        }
    }

    private static void againstTakesInks0To9() {
        for (int other : new int[] {0, 9}) {
            for (int is = 0; is <= 1; is++) {
                int told = is;
                EDGES.range("against, lies", CutBoard::new, (x, v) -> x.against(v, other, told), 0, 9);
                EDGES.range("against, laid", CutBoard::new, (x, v) -> x.against(other, v, told), 0, 9);
            }
        }
    }

    /** "is told against (1) or not (0; at first): what it was" */
    private static void against1Or0And0AtFirst() {
        EDGES.range("against, is", CutBoard::new, (x, v) -> x.against(0, 9, v), 0, 1);
        EDGES.range("against itself, is", CutBoard::new, (x, v) -> x.against(9, 9, v), 0, 1);
        CutBoard x = new CutBoard();
        for (int lies = 0; lies < 10; lies++) {
            for (int laid = 0; laid < 10; laid++) {
                DUE.is("0 at first", x.against(lies, laid, lies * 3 + laid & 1), 0);
            }
        }
        for (int lies = 0; lies < 10; lies++) {
            for (int laid = 0; laid < 10; laid++) {
                DUE.is("is 2", x.against(lies, laid, 2), CutBoard.NONE);
                DUE.is("is -1", x.against(lies, laid, -1), CutBoard.NONE);
                DUE.is("each way by itself", x.against(lies, laid, 0), lies * 3 + laid & 1);
            }
        }
    }

    /** "MIXED of two unlike INKS: what it was. NONE." */
    private static void mixedTakesTwoUnlikeInks() {
        for (int p = -2; p <= 11; p++) {
            for (int q = -2; q <= 11; q++) {
                boolean two = p >= 0 && p < 10 && q >= 0 && q < 10 && p != q;
                DUE.is("mixed of " + p + " and " + q, new CutBoard().mixed(p, q, 9), two ? 0 : CutBoard.NONE);
            }
        }
        EDGES.range("mixed, p", CutBoard::new, (x, v) -> x.mixed(v, v == 9 ? 8 : 9, 0), 0, 9);
        EDGES.range("mixed, q", CutBoard::new, (x, v) -> x.mixed(v == 0 ? 1 : 0, v, 0), 0, 9);
        EDGES.range("mixed, ink", CutBoard::new, (x, v) -> x.mixed(0, 9, v), 0, 9);
        EDGES.range("mixed, ink, the other way", CutBoard::new, (x, v) -> x.mixed(9, 0, v), 0, 9);
        DUE.is("p is one of the pair", new CutBoard().mixed(3, 4, 3), 0);
    }

    /** "a told INK for the pair (p, q) (0 at first, either way the same)" */
    private static void mixed0AtFirstEitherWayTheSame() {
        CutBoard x = new CutBoard();
        for (int p = 0; p < 10; p++) {
            for (int q = p + 1; q < 10; q++) {
                DUE.is("0 at first", x.mixed(p, q, (p + q) % 10), 0);
            }
        }
        for (int p = 0; p < 10; p++) {
            for (int q = 0; q < p; q++) {
                DUE.is("refused", x.mixed(p, q, 10), CutBoard.NONE);
                DUE.is("told the other way", x.mixed(p, q, 9), (p + q) % 10);
                DUE.is("and back", x.mixed(q, p, 0), 9);
            }
        }
    }

    /** "SLIP (what 0), z (1; any int): 1. NONE." */
    private static void lotsTakesWhat0And1() {
        EDGES.range("lots, what", CutBoard::new, (x, v) -> x.lots(v, 0), 0, 1);
        EDGES.range("lots, what, with 999", CutBoard::new, (x, v) -> x.lots(v, 999), 0, 1);
        DUE.is("no slip of 1000", new CutBoard().lots(0, 1000), CutBoard.NONE);
        DUE.is("but a z of 1000", new CutBoard().lots(1, 1000), 1);
    }

    private static void slip0To999And0AtFirst() {
        EDGES.range("slip", CutBoard::new, (x, v) -> x.lots(0, v), 0, 999);
        CutBoard x = Due.withSheets(1, 1, 20);
        x.lots(1, zFor(0));
        x.pull(19, 0);
        DUE.is("slip 0 at first: not even the lot 0 spoils", x.count(2), 20);
        x.lots(0, 999);
        x.lots(0, 1000);
        x.lots(0, -1);
        x.lots(1, zFor(998));
        x.pull(0, 0);
        DUE.is("a refused slip leaves 999", x.good(0), 0);
        x.lots(1, zFor(999));
        x.pull(101, 0);
        DUE.is("and not 1000", x.good(1), 1);
    }

    private static void zIsAnyInt() {
        for (int bit = 0; bit < 32; bit++) {
            for (int z : new int[] {1 << bit, (1 << bit) - 1, -(1 << bit), ~(1 << bit)}) {
                DUE.is("z " + z, new CutBoard().lots(1, z), 1);
            }
        }
    }

    /** The document's sum in 64 bits, cut to the 32 of an int by hand. */
    private static long after(long z) {
        return (z * 1103515245L + 12345L) & 0xFFFFFFFFL;
    }

    private static int lotOf(long z) {
        return (int) ((z >> 8) % 1000);
    }

    /** The least z whose next lot is this one. */
    private static int zFor(int lot) {
        int z = 0;
        while (lotOf(after(z)) != lot) {
            z++;
        }
        return z;
    }

    /** "z becomes z * 1103515245 + 12345 (an int)", "(z >>> 8) % 1000 is less than SLIP" */
    private static void zWrapsAroundAsAnInt() {
        int[] begins = {0, 1, -1, 2, Edges.MIN, Edges.MIN + 1, Edges.MAX, Edges.MAX - 1, 77, 12345, -12345, 1 << 30};
        for (int begin : begins) {
            for (int slip : new int[] {1, 120, 500, 880, 999}) {
                CutBoard x = Due.withSheets(1, 1, 20);
                x.lots(0, slip);
                x.lots(1, begin);
                long z = begin & 0xFFFFFFFFL;
                for (int sheet = 0; sheet < 20; sheet++) {
                    z = after(z);
                    x.pull(101 * sheet, 0);
                    DUE.is("z " + begin + " slip " + slip + " sheet " + sheet, x.good(sheet), lotOf(z) < slip ? 0 : 1);
                }
            }
        }
    }

    /** "the SHEET is SPOILED if ... is less than SLIP" */
    private static void lessThanSlip() {
        for (int lot : new int[] {0, 1, 2, 499, 500, 997, 998, 999}) {
            for (int slip : new int[] {0, lot - 1, lot, lot + 1, 999}) {
                if (slip >= 0 && slip <= 999) {
                    CutBoard x = Due.withSheets(1, 1, 1);
                    x.lots(0, slip);
                    x.lots(1, zFor(lot));
                    x.pull(0, 0);
                    DUE.is("good by lot " + lot + " slip " + slip, x.good(0), lot < slip ? 0 : 1);
                    DUE.is("colour by lot " + lot + " slip " + slip, x.colour(0, 0), lot < slip ? 0 : 1);
                    DUE.is("spoiled by lot " + lot + " slip " + slip, x.book(0, 4), lot < slip ? 1 : 0);
                }
            }
        }
    }

    /** "n (1 .. 1000) minutes go by: MINUTE. NONE" */
    private static void minutes1To1000() {
        EDGES.sweep("minutes", CutBoard::new, CutBoard::minutes, -1100, 2100, v -> v >= 1 && v <= 1000 ? v : CutBoard.NONE);
        EDGES.range("minutes, range", CutBoard::new, CutBoard::minutes, 1, 1000);
        CutBoard x = new CutBoard();
        x.minutes(1000);
        x.minutes(1001);
        x.minutes(0);
        x.minutes(-1);
        DUE.is("the refused don't go by", x.count(4), 1000);
        DUE.is("and the next do", x.minutes(1), 1001);
    }

    private static CutBoard atMinute(int minute) {
        CutBoard x = new CutBoard();
        for (int left = minute; left > 0; left -= 1000) {
            x.minutes(Math.min(left, 1000));
        }
        return x;
    }

    /** "MINUTE is a count, 0 at first, at most 99999", "NONE (also beyond 99999)" */
    private static void minuteAtMost99999() {
        for (int minute : new int[] {98998, 98999, 99000, 99001, 99500, 99997, 99998, 99999}) {
            for (int n : new int[] {1, 2, 3, 499, 500, 998, 999, 1000}) {
                CutBoard x = atMinute(minute);
                DUE.is("it is minute", x.count(4), minute);
                boolean within = minute + n <= 99999;
                DUE.is(minute + " and " + n, x.minutes(n), within ? minute + n : CutBoard.NONE);
                DUE.is("then", x.count(4), within ? minute + n : minute);
            }
            EDGES.none("wraps around at " + minute, () -> atMinute(minute), CutBoard::minutes, 0, -1, -minute, 1001,
                Edges.MIN, Edges.MAX, Edges.MAX - minute, Edges.MAX - minute + 1);
        }
        DUE.is("0 at first", new CutBoard().count(4), 0);
    }
}
